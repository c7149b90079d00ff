/-! contracts: X5_control X5_immediate X5_isClock X5_isDevice X5_read -/
set_option maxHeartbeats 4000000 in
set_option maxRecDepth 100000 in
theorem c_X5_control (l : Launch) (D : va_G) (q : Nat → Nat) (ca : Nat → ClassId) (sz mo : Int32) (hk : MOk sz mo) (E : MS) (hd : mDec E) : Mt l yX5_control cX5_control 6 (some .int) 2 D (tysM ca) [.ref (q 0)] (cwM q ca sz mo E) (QcI D (cwM q ca sz mo E) (cwM q ca sz mo (f_X5_control sz mo E).2) (f_X5_control sz mo E).1) := by
  refine ent (own := RX5) rfl (by decide) (Nat.le_of_ble_eq_true rfl) ?_
  intro p e s m below meth c A ls X hr hlk hmn hAe hA hP hD hS hl
  have hx := X.1.1
  have hb := X.1.2.1
  have hl : lv_has ls 6 [(0, .ref (q 0))] := hl
  refine lv_aload_n hx hb dX5_control_0 rfl (lv_at hl 0 rfl) ?_
  refine gf_X5_118 X hP dX5_control_1 ?_
  refine lv_bipush (v := (20 : Int32)) hx hb dX5_control_4 (by decide) ?_
  refine lv_ishr hx hb dX5_control_6 ?_
  refine lv_sipush (v := (4095 : Int32)) hx hb dX5_control_7 (by decide) ?_
  refine lv_iand hx hb dX5_control_10 ?_
  refine lv_istore_n (lv' := [(1, .int (((mword E) >>> ((20 : Int32) &&& 31)) &&& (4095 : Int32))), (0, .ref (q 0))]) hx hb dX5_control_11 rfl hl (by decide) rfl (fun ls hl => ?_)
  refine lv_aload_n hx hb dX5_control_12 rfl (lv_at hl 1 rfl) ?_
  refine gf_X5_127 X hP dX5_control_13 ?_
  refine lv_iconst (v := (3 : Int32)) hx hb dX5_control_16 (by decide) ?_
  refine lv_iand hx hb dX5_control_17 ?_
  refine lv_istore_n (lv' := [(2, .int ((mf E) &&& (3 : Int32))), (1, .int (((mword E) >>> ((20 : Int32) &&& 31)) &&& (4095 : Int32))), (0, .ref (q 0))]) hx hb dX5_control_18 rfl hl (by decide) rfl (fun ls hl => ?_)
  refine lv_iload_n hx hb dX5_control_19 rfl (lv_at hl 0 rfl) ?_
  refine lv_iconst (v := (1 : Int32)) hx hb dX5_control_20 (by decide) ?_
  refine lv_icmp_eq (tgt := 31) hx hb dX5_control_21 (by decide) (fun c_1 => ?_) (fun c_1 => ?_)
  ·
    refine lv_iconst (v := (1 : Int32)) hx hb dX5_control_31 (by decide) ?_
    refine lv_goto (tgt := 36) hx hb dX5_control_32 (by decide) ?_
    refine lv_istore_n (lv' := [(3, .int (1 : Int32)), (2, .int ((mf E) &&& (3 : Int32))), (1, .int (((mword E) >>> ((20 : Int32) &&& 31)) &&& (4095 : Int32))), (0, .ref (q 0))]) hx hb dX5_control_36 rfl hl (by decide) rfl (fun ls hl => ?_)
    refine lv_aload_n hx hb dX5_control_37 rfl (lv_at hl 3 rfl) ?_
    refine gf_X5_127 X hP dX5_control_38 ?_
    refine lv_iconst (v := (4 : Int32)) hx hb dX5_control_41 (by decide) ?_
    refine lv_icmp_eq (tgt := 63) hx hb dX5_control_42 (by decide) (fun c_2 => ?_) (fun c_2 => ?_)
    ·
      refine lv_aload_n hx hb dX5_control_63 rfl (lv_at hl 3 rfl) ?_
      refine go_i (rn_V (ci := 5) (q0 := 0) X (c_X5_illegal l D q ca sz mo hk E ) ok_X5_illegal wd_621 ⟨by decide, by decide⟩ hP hD rfl rfl rfl hl.1 rfl (Nat.le_of_ble_eq_true rfl) dX5_control_64 ⟨Nat.zero_le _, Nat.zero_le _⟩) hP hD hS hA (fun H locs hP hD hS => ?_)
      exact rmu_i (v := (f_X5_illegal sz mo E).1) (F := (f_X5_control sz mo E)) (E1 := (f_X5_illegal sz mo E).2) (by unfold f_X5_control; rw [if_pos c_1, if_pos c_2]; try rfl) X hP hD hS hAe hr hlk dX5_control_67
    ·
      refine lv_iload_n hx hb dX5_control_45 rfl (lv_at hl 2 rfl) ?_
      refine go_i (rn_S X (c_X5_isListed l D _ _ (((mword E) >>> ((20 : Int32) &&& 31)) &&& (4095 : Int32))) ok_X5_isListed wd_680 ⟨by decide, by decide⟩ hP hD rfl hl.1 rfl (Nat.le_of_ble_eq_true rfl) dX5_control_46 ⟨Nat.zero_le _, Nat.zero_le _⟩) hP hD hS hA (fun H locs hP hD hS => ?_)
      refine lv_if_eq (tgt := 63) hx hb dX5_control_49 (by decide) (fun c_3 => ?_) (fun c_3 => ?_)
      ·
        refine lv_aload_n hx hb dX5_control_63 rfl (lv_at hl 3 rfl) ?_
        refine go_i (rn_V (ci := 5) (q0 := 0) X (c_X5_illegal l D q ca sz mo hk E ) ok_X5_illegal wd_621 ⟨by decide, by decide⟩ hP hD rfl rfl rfl hl.1 rfl (Nat.le_of_ble_eq_true rfl) dX5_control_64 ⟨Nat.zero_le _, Nat.zero_le _⟩) hP hD hS hA (fun H locs hP hD hS => ?_)
        exact rmu_i (v := (f_X5_illegal sz mo E).1) (F := (f_X5_control sz mo E)) (E1 := (f_X5_illegal sz mo E).2) (by unfold f_X5_control; rw [if_pos c_1, if_neg c_2, if_pos c_3]; try rfl) X hP hD hS hAe hr hlk dX5_control_67
      ·
        refine lv_iload_n hx hb dX5_control_52 rfl (lv_at hl 0 rfl) ?_
        refine lv_if_eq (tgt := 68) hx hb dX5_control_53 (by decide) (fun h => absurd h (by decide)) (fun _ => ?_)
        refine lv_iload_n hx hb dX5_control_56 rfl (lv_at hl 2 rfl) ?_
        refine lv_sipush (v := (3072 : Int32)) hx hb dX5_control_57 (by decide) ?_
        refine lv_icmp_lt (tgt := 68) hx hb dX5_control_60 (by decide) (fun c_4 => ?_) (fun c_4 => ?_)
        ·
          refine lv_aload_n hx hb dX5_control_68 rfl (lv_at hl 3 rfl) ?_
          refine lv_iload_n hx hb dX5_control_69 rfl (lv_at hl 2 rfl) ?_
          refine go_i (rn_V (ci := 5) (q0 := 0) X (c_X5_csr l D q ca sz mo hk E (((mword E) >>> ((20 : Int32) &&& 31)) &&& (4095 : Int32))) ok_X5_csr wd_590 ⟨by decide, by decide⟩ hP hD rfl rfl rfl hl.1 rfl (Nat.le_of_ble_eq_true rfl) dX5_control_70 ⟨Nat.zero_le _, Nat.zero_le _⟩) hP hD hS hA (fun H locs hP hD hS => ?_)
          refine lv_istore (lv' := [(4, .int (f_X5_csr sz mo E (((mword E) >>> ((20 : Int32) &&& 31)) &&& (4095 : Int32)))), (3, .int (1 : Int32)), (2, .int ((mf E) &&& (3 : Int32))), (1, .int (((mword E) >>> ((20 : Int32) &&& 31)) &&& (4095 : Int32))), (0, .ref (q 0))]) hx hb dX5_control_73 hl (by decide) rfl (fun ls hl => ?_)
          refine lv_aload_n hx hb dX5_control_75 rfl (lv_at hl 4 rfl) ?_
          refine gf_X5_127 X hP dX5_control_76 ?_
          refine lv_iconst (v := (4 : Int32)) hx hb dX5_control_79 (by decide) ?_
          refine lv_icmp_ge (tgt := 95) hx hb dX5_control_80 (by decide) (fun c_5 => ?_) (fun c_5 => ?_)
          ·
            refine lv_aload_n hx hb dX5_control_95 rfl (lv_at hl 4 rfl) ?_
            refine gf_X5_130 X hP dX5_control_96 ?_
            refine lv_istore (lv' := [(5, .int (ms E)), (4, .int (f_X5_csr sz mo E (((mword E) >>> ((20 : Int32) &&& 31)) &&& (4095 : Int32)))), (3, .int (1 : Int32)), (2, .int ((mf E) &&& (3 : Int32))), (1, .int (((mword E) >>> ((20 : Int32) &&& 31)) &&& (4095 : Int32))), (0, .ref (q 0))]) hx hb dX5_control_99 hl (by decide) rfl (fun ls hl => ?_)
            refine lv_iload_n hx hb dX5_control_101 rfl (lv_at hl 2 rfl) ?_
            refine lv_if_eq (tgt := 140) hx hb dX5_control_102 (by decide) (fun h => absurd h (by decide)) (fun _ => ?_)
            refine lv_aload_n hx hb dX5_control_105 rfl (lv_at hl 5 rfl) ?_
            refine lv_iload_n hx hb dX5_control_106 rfl (lv_at hl 4 rfl) ?_
            refine lv_iload_n hx hb dX5_control_107 rfl (lv_at hl 3 rfl) ?_
            refine lv_iconst (v := (1 : Int32)) hx hb dX5_control_108 (by decide) ?_
            refine lv_icmp_ne (tgt := 117) hx hb dX5_control_109 (by decide) (fun h => absurd c_1 h) (fun _ => ?_)
            refine lv_iload hx hb dX5_control_112 (lv_at hl 0 rfl) ?_
            refine lv_goto (tgt := 137) hx hb dX5_control_114 (by decide) ?_
            refine go_v (rn_V (ci := 5) (q0 := 0) X (c_X5_setCsr l D q ca sz mo hk E (((mword E) >>> ((20 : Int32) &&& 31)) &&& (4095 : Int32)) (ms E)) ok_X5_setCsr wd_683 ⟨by decide, by decide⟩ hP hD rfl rfl rfl hl.1 rfl (Nat.le_of_ble_eq_true rfl) dX5_control_137 ⟨Nat.zero_le _, Nat.zero_le _⟩) hP hD hS hA (fun H locs hP hD hS => ?_)
            refine lv_aload_n hx hb dX5_control_140 rfl (lv_at hl 5 rfl) ?_
            refine lv_iload hx hb dX5_control_141 (lv_at hl 1 rfl) ?_
            refine go_i (rn_V (ci := 5) (q0 := 0) X (c_X5_become l D q ca sz mo hk (f_X5_setCsr sz mo E (((mword E) >>> ((20 : Int32) &&& 31)) &&& (4095 : Int32)) (ms E)) (f_X5_csr sz mo E (((mword E) >>> ((20 : Int32) &&& 31)) &&& (4095 : Int32))) (md_setCsr hd.1)) ok_X5_become wd_608 ⟨by decide, by decide⟩ hP hD rfl rfl rfl hl.1 rfl (Nat.le_of_ble_eq_true rfl) dX5_control_143 ⟨Nat.zero_le _, Nat.zero_le _⟩) hP hD hS hA (fun H locs hP hD hS => ?_)
            exact rmu_i (v := (f_X5_become sz mo (f_X5_setCsr sz mo E (((mword E) >>> ((20 : Int32) &&& 31)) &&& (4095 : Int32)) (ms E)) (f_X5_csr sz mo E (((mword E) >>> ((20 : Int32) &&& 31)) &&& (4095 : Int32)))).1) (F := (f_X5_control sz mo E)) (E1 := (f_X5_become sz mo (f_X5_setCsr sz mo E (((mword E) >>> ((20 : Int32) &&& 31)) &&& (4095 : Int32)) (ms E)) (f_X5_csr sz mo E (((mword E) >>> ((20 : Int32) &&& 31)) &&& (4095 : Int32)))).2) (by unfold f_X5_control; rw [if_pos c_1, if_neg c_2, if_neg c_3, if_pos c_4, if_pos c_5]; try rfl) X hP hD hS hAe hr hlk dX5_control_146
          ·
            refine lv_aload_n hx hb dX5_control_83 rfl (lv_at hl 4 rfl) ?_
            refine gf_X5_14 X hP dX5_control_84 ?_
            refine lv_aload_n hx hb dX5_control_87 rfl (lv_at hl 4 rfl) ?_
            refine gf_X5_130 X hP dX5_control_88 ?_
            refine mld_2 X hP hd.2.1 dX5_control_91 ?_
            refine lv_goto (tgt := 99) hx hb dX5_control_92 (by decide) ?_
            refine lv_istore (lv' := [(5, .int (mx E ((ms E)).toNatClampNeg)), (4, .int (f_X5_csr sz mo E (((mword E) >>> ((20 : Int32) &&& 31)) &&& (4095 : Int32)))), (3, .int (1 : Int32)), (2, .int ((mf E) &&& (3 : Int32))), (1, .int (((mword E) >>> ((20 : Int32) &&& 31)) &&& (4095 : Int32))), (0, .ref (q 0))]) hx hb dX5_control_99 hl (by decide) rfl (fun ls hl => ?_)
            refine lv_iload_n hx hb dX5_control_101 rfl (lv_at hl 2 rfl) ?_
            refine lv_if_eq (tgt := 140) hx hb dX5_control_102 (by decide) (fun h => absurd h (by decide)) (fun _ => ?_)
            refine lv_aload_n hx hb dX5_control_105 rfl (lv_at hl 5 rfl) ?_
            refine lv_iload_n hx hb dX5_control_106 rfl (lv_at hl 4 rfl) ?_
            refine lv_iload_n hx hb dX5_control_107 rfl (lv_at hl 3 rfl) ?_
            refine lv_iconst (v := (1 : Int32)) hx hb dX5_control_108 (by decide) ?_
            refine lv_icmp_ne (tgt := 117) hx hb dX5_control_109 (by decide) (fun h => absurd c_1 h) (fun _ => ?_)
            refine lv_iload hx hb dX5_control_112 (lv_at hl 0 rfl) ?_
            refine lv_goto (tgt := 137) hx hb dX5_control_114 (by decide) ?_
            refine go_v (rn_V (ci := 5) (q0 := 0) X (c_X5_setCsr l D q ca sz mo hk E (((mword E) >>> ((20 : Int32) &&& 31)) &&& (4095 : Int32)) (mx E ((ms E)).toNatClampNeg)) ok_X5_setCsr wd_683 ⟨by decide, by decide⟩ hP hD rfl rfl rfl hl.1 rfl (Nat.le_of_ble_eq_true rfl) dX5_control_137 ⟨Nat.zero_le _, Nat.zero_le _⟩) hP hD hS hA (fun H locs hP hD hS => ?_)
            refine lv_aload_n hx hb dX5_control_140 rfl (lv_at hl 5 rfl) ?_
            refine lv_iload hx hb dX5_control_141 (lv_at hl 1 rfl) ?_
            refine go_i (rn_V (ci := 5) (q0 := 0) X (c_X5_become l D q ca sz mo hk (f_X5_setCsr sz mo E (((mword E) >>> ((20 : Int32) &&& 31)) &&& (4095 : Int32)) (mx E ((ms E)).toNatClampNeg)) (f_X5_csr sz mo E (((mword E) >>> ((20 : Int32) &&& 31)) &&& (4095 : Int32))) (md_setCsr hd.1)) ok_X5_become wd_608 ⟨by decide, by decide⟩ hP hD rfl rfl rfl hl.1 rfl (Nat.le_of_ble_eq_true rfl) dX5_control_143 ⟨Nat.zero_le _, Nat.zero_le _⟩) hP hD hS hA (fun H locs hP hD hS => ?_)
            exact rmu_i (v := (f_X5_become sz mo (f_X5_setCsr sz mo E (((mword E) >>> ((20 : Int32) &&& 31)) &&& (4095 : Int32)) (mx E ((ms E)).toNatClampNeg)) (f_X5_csr sz mo E (((mword E) >>> ((20 : Int32) &&& 31)) &&& (4095 : Int32)))).1) (F := (f_X5_control sz mo E)) (E1 := (f_X5_become sz mo (f_X5_setCsr sz mo E (((mword E) >>> ((20 : Int32) &&& 31)) &&& (4095 : Int32)) (mx E ((ms E)).toNatClampNeg)) (f_X5_csr sz mo E (((mword E) >>> ((20 : Int32) &&& 31)) &&& (4095 : Int32)))).2) (by unfold f_X5_control; rw [if_pos c_1, if_neg c_2, if_neg c_3, if_pos c_4, if_neg c_5]; try rfl) X hP hD hS hAe hr hlk dX5_control_146
        ·
          refine lv_aload_n hx hb dX5_control_63 rfl (lv_at hl 3 rfl) ?_
          refine go_i (rn_V (ci := 5) (q0 := 0) X (c_X5_illegal l D q ca sz mo hk E ) ok_X5_illegal wd_621 ⟨by decide, by decide⟩ hP hD rfl rfl rfl hl.1 rfl (Nat.le_of_ble_eq_true rfl) dX5_control_64 ⟨Nat.zero_le _, Nat.zero_le _⟩) hP hD hS hA (fun H locs hP hD hS => ?_)
          exact rmu_i (v := (f_X5_illegal sz mo E).1) (F := (f_X5_control sz mo E)) (E1 := (f_X5_illegal sz mo E).2) (by unfold f_X5_control; rw [if_pos c_1, if_neg c_2, if_neg c_3, if_neg c_4]; try rfl) X hP hD hS hAe hr hlk dX5_control_67
  ·
    refine lv_aload_n hx hb dX5_control_24 rfl (lv_at hl 2 rfl) ?_
    refine gf_X5_130 X hP dX5_control_25 ?_
    refine lv_if_eq (tgt := 35) hx hb dX5_control_28 (by decide) (fun c_8 => ?_) (fun c_8 => ?_)
    ·
      refine lv_iconst (v := (0 : Int32)) hx hb dX5_control_35 (by decide) ?_
      refine lv_istore_n (lv' := [(3, .int (0 : Int32)), (2, .int ((mf E) &&& (3 : Int32))), (1, .int (((mword E) >>> ((20 : Int32) &&& 31)) &&& (4095 : Int32))), (0, .ref (q 0))]) hx hb dX5_control_36 rfl hl (by decide) rfl (fun ls hl => ?_)
      refine lv_aload_n hx hb dX5_control_37 rfl (lv_at hl 3 rfl) ?_
      refine gf_X5_127 X hP dX5_control_38 ?_
      refine lv_iconst (v := (4 : Int32)) hx hb dX5_control_41 (by decide) ?_
      refine lv_icmp_eq (tgt := 63) hx hb dX5_control_42 (by decide) (fun c_9 => ?_) (fun c_9 => ?_)
      ·
        refine lv_aload_n hx hb dX5_control_63 rfl (lv_at hl 3 rfl) ?_
        refine go_i (rn_V (ci := 5) (q0 := 0) X (c_X5_illegal l D q ca sz mo hk E ) ok_X5_illegal wd_621 ⟨by decide, by decide⟩ hP hD rfl rfl rfl hl.1 rfl (Nat.le_of_ble_eq_true rfl) dX5_control_64 ⟨Nat.zero_le _, Nat.zero_le _⟩) hP hD hS hA (fun H locs hP hD hS => ?_)
        exact rmu_i (v := (f_X5_illegal sz mo E).1) (F := (f_X5_control sz mo E)) (E1 := (f_X5_illegal sz mo E).2) (by unfold f_X5_control; rw [if_neg c_1, if_pos c_8, if_pos c_9]; try rfl) X hP hD hS hAe hr hlk dX5_control_67
      ·
        refine lv_iload_n hx hb dX5_control_45 rfl (lv_at hl 2 rfl) ?_
        refine go_i (rn_S X (c_X5_isListed l D _ _ (((mword E) >>> ((20 : Int32) &&& 31)) &&& (4095 : Int32))) ok_X5_isListed wd_680 ⟨by decide, by decide⟩ hP hD rfl hl.1 rfl (Nat.le_of_ble_eq_true rfl) dX5_control_46 ⟨Nat.zero_le _, Nat.zero_le _⟩) hP hD hS hA (fun H locs hP hD hS => ?_)
        refine lv_if_eq (tgt := 63) hx hb dX5_control_49 (by decide) (fun c_10 => ?_) (fun c_10 => ?_)
        ·
          refine lv_aload_n hx hb dX5_control_63 rfl (lv_at hl 3 rfl) ?_
          refine go_i (rn_V (ci := 5) (q0 := 0) X (c_X5_illegal l D q ca sz mo hk E ) ok_X5_illegal wd_621 ⟨by decide, by decide⟩ hP hD rfl rfl rfl hl.1 rfl (Nat.le_of_ble_eq_true rfl) dX5_control_64 ⟨Nat.zero_le _, Nat.zero_le _⟩) hP hD hS hA (fun H locs hP hD hS => ?_)
          exact rmu_i (v := (f_X5_illegal sz mo E).1) (F := (f_X5_control sz mo E)) (E1 := (f_X5_illegal sz mo E).2) (by unfold f_X5_control; rw [if_neg c_1, if_pos c_8, if_neg c_9, if_pos c_10]; try rfl) X hP hD hS hAe hr hlk dX5_control_67
        ·
          refine lv_iload_n hx hb dX5_control_52 rfl (lv_at hl 0 rfl) ?_
          refine lv_if_eq (tgt := 68) hx hb dX5_control_53 (by decide) (fun _ => ?_) (fun h => absurd (by decide) h)
          refine lv_aload_n hx hb dX5_control_68 rfl (lv_at hl 3 rfl) ?_
          refine lv_iload_n hx hb dX5_control_69 rfl (lv_at hl 2 rfl) ?_
          refine go_i (rn_V (ci := 5) (q0 := 0) X (c_X5_csr l D q ca sz mo hk E (((mword E) >>> ((20 : Int32) &&& 31)) &&& (4095 : Int32))) ok_X5_csr wd_590 ⟨by decide, by decide⟩ hP hD rfl rfl rfl hl.1 rfl (Nat.le_of_ble_eq_true rfl) dX5_control_70 ⟨Nat.zero_le _, Nat.zero_le _⟩) hP hD hS hA (fun H locs hP hD hS => ?_)
          refine lv_istore (lv' := [(4, .int (f_X5_csr sz mo E (((mword E) >>> ((20 : Int32) &&& 31)) &&& (4095 : Int32)))), (3, .int (0 : Int32)), (2, .int ((mf E) &&& (3 : Int32))), (1, .int (((mword E) >>> ((20 : Int32) &&& 31)) &&& (4095 : Int32))), (0, .ref (q 0))]) hx hb dX5_control_73 hl (by decide) rfl (fun ls hl => ?_)
          refine lv_aload_n hx hb dX5_control_75 rfl (lv_at hl 4 rfl) ?_
          refine gf_X5_127 X hP dX5_control_76 ?_
          refine lv_iconst (v := (4 : Int32)) hx hb dX5_control_79 (by decide) ?_
          refine lv_icmp_ge (tgt := 95) hx hb dX5_control_80 (by decide) (fun c_11 => ?_) (fun c_11 => ?_)
          ·
            refine lv_aload_n hx hb dX5_control_95 rfl (lv_at hl 4 rfl) ?_
            refine gf_X5_130 X hP dX5_control_96 ?_
            refine lv_istore (lv' := [(5, .int (ms E)), (4, .int (f_X5_csr sz mo E (((mword E) >>> ((20 : Int32) &&& 31)) &&& (4095 : Int32)))), (3, .int (0 : Int32)), (2, .int ((mf E) &&& (3 : Int32))), (1, .int (((mword E) >>> ((20 : Int32) &&& 31)) &&& (4095 : Int32))), (0, .ref (q 0))]) hx hb dX5_control_99 hl (by decide) rfl (fun ls hl => ?_)
            refine lv_iload_n hx hb dX5_control_101 rfl (lv_at hl 2 rfl) ?_
            refine lv_if_eq (tgt := 140) hx hb dX5_control_102 (by decide) (fun _ => ?_) (fun h => absurd (by decide) h)
            refine lv_aload_n hx hb dX5_control_140 rfl (lv_at hl 5 rfl) ?_
            refine lv_iload hx hb dX5_control_141 (lv_at hl 1 rfl) ?_
            refine go_i (rn_V (ci := 5) (q0 := 0) X (c_X5_become l D q ca sz mo hk E (f_X5_csr sz mo E (((mword E) >>> ((20 : Int32) &&& 31)) &&& (4095 : Int32))) hd.1) ok_X5_become wd_608 ⟨by decide, by decide⟩ hP hD rfl rfl rfl hl.1 rfl (Nat.le_of_ble_eq_true rfl) dX5_control_143 ⟨Nat.zero_le _, Nat.zero_le _⟩) hP hD hS hA (fun H locs hP hD hS => ?_)
            exact rmu_i (v := (f_X5_become sz mo E (f_X5_csr sz mo E (((mword E) >>> ((20 : Int32) &&& 31)) &&& (4095 : Int32)))).1) (F := (f_X5_control sz mo E)) (E1 := (f_X5_become sz mo E (f_X5_csr sz mo E (((mword E) >>> ((20 : Int32) &&& 31)) &&& (4095 : Int32)))).2) (by unfold f_X5_control; rw [if_neg c_1, if_pos c_8, if_neg c_9, if_neg c_10, if_pos c_11]; try rfl) X hP hD hS hAe hr hlk dX5_control_146
          ·
            refine lv_aload_n hx hb dX5_control_83 rfl (lv_at hl 4 rfl) ?_
            refine gf_X5_14 X hP dX5_control_84 ?_
            refine lv_aload_n hx hb dX5_control_87 rfl (lv_at hl 4 rfl) ?_
            refine gf_X5_130 X hP dX5_control_88 ?_
            refine mld_2 X hP hd.2.1 dX5_control_91 ?_
            refine lv_goto (tgt := 99) hx hb dX5_control_92 (by decide) ?_
            refine lv_istore (lv' := [(5, .int (mx E ((ms E)).toNatClampNeg)), (4, .int (f_X5_csr sz mo E (((mword E) >>> ((20 : Int32) &&& 31)) &&& (4095 : Int32)))), (3, .int (0 : Int32)), (2, .int ((mf E) &&& (3 : Int32))), (1, .int (((mword E) >>> ((20 : Int32) &&& 31)) &&& (4095 : Int32))), (0, .ref (q 0))]) hx hb dX5_control_99 hl (by decide) rfl (fun ls hl => ?_)
            refine lv_iload_n hx hb dX5_control_101 rfl (lv_at hl 2 rfl) ?_
            refine lv_if_eq (tgt := 140) hx hb dX5_control_102 (by decide) (fun _ => ?_) (fun h => absurd (by decide) h)
            refine lv_aload_n hx hb dX5_control_140 rfl (lv_at hl 5 rfl) ?_
            refine lv_iload hx hb dX5_control_141 (lv_at hl 1 rfl) ?_
            refine go_i (rn_V (ci := 5) (q0 := 0) X (c_X5_become l D q ca sz mo hk E (f_X5_csr sz mo E (((mword E) >>> ((20 : Int32) &&& 31)) &&& (4095 : Int32))) hd.1) ok_X5_become wd_608 ⟨by decide, by decide⟩ hP hD rfl rfl rfl hl.1 rfl (Nat.le_of_ble_eq_true rfl) dX5_control_143 ⟨Nat.zero_le _, Nat.zero_le _⟩) hP hD hS hA (fun H locs hP hD hS => ?_)
            exact rmu_i (v := (f_X5_become sz mo E (f_X5_csr sz mo E (((mword E) >>> ((20 : Int32) &&& 31)) &&& (4095 : Int32)))).1) (F := (f_X5_control sz mo E)) (E1 := (f_X5_become sz mo E (f_X5_csr sz mo E (((mword E) >>> ((20 : Int32) &&& 31)) &&& (4095 : Int32)))).2) (by unfold f_X5_control; rw [if_neg c_1, if_pos c_8, if_neg c_9, if_neg c_10, if_neg c_11]; try rfl) X hP hD hS hAe hr hlk dX5_control_146
    ·
      refine lv_iconst (v := (1 : Int32)) hx hb dX5_control_31 (by decide) ?_
      refine lv_goto (tgt := 36) hx hb dX5_control_32 (by decide) ?_
      refine lv_istore_n (lv' := [(3, .int (1 : Int32)), (2, .int ((mf E) &&& (3 : Int32))), (1, .int (((mword E) >>> ((20 : Int32) &&& 31)) &&& (4095 : Int32))), (0, .ref (q 0))]) hx hb dX5_control_36 rfl hl (by decide) rfl (fun ls hl => ?_)
      refine lv_aload_n hx hb dX5_control_37 rfl (lv_at hl 3 rfl) ?_
      refine gf_X5_127 X hP dX5_control_38 ?_
      refine lv_iconst (v := (4 : Int32)) hx hb dX5_control_41 (by decide) ?_
      refine lv_icmp_eq (tgt := 63) hx hb dX5_control_42 (by decide) (fun c_12 => ?_) (fun c_12 => ?_)
      ·
        refine lv_aload_n hx hb dX5_control_63 rfl (lv_at hl 3 rfl) ?_
        refine go_i (rn_V (ci := 5) (q0 := 0) X (c_X5_illegal l D q ca sz mo hk E ) ok_X5_illegal wd_621 ⟨by decide, by decide⟩ hP hD rfl rfl rfl hl.1 rfl (Nat.le_of_ble_eq_true rfl) dX5_control_64 ⟨Nat.zero_le _, Nat.zero_le _⟩) hP hD hS hA (fun H locs hP hD hS => ?_)
        exact rmu_i (v := (f_X5_illegal sz mo E).1) (F := (f_X5_control sz mo E)) (E1 := (f_X5_illegal sz mo E).2) (by unfold f_X5_control; rw [if_neg c_1, if_neg c_8, if_pos c_12]; try rfl) X hP hD hS hAe hr hlk dX5_control_67
      ·
        refine lv_iload_n hx hb dX5_control_45 rfl (lv_at hl 2 rfl) ?_
        refine go_i (rn_S X (c_X5_isListed l D _ _ (((mword E) >>> ((20 : Int32) &&& 31)) &&& (4095 : Int32))) ok_X5_isListed wd_680 ⟨by decide, by decide⟩ hP hD rfl hl.1 rfl (Nat.le_of_ble_eq_true rfl) dX5_control_46 ⟨Nat.zero_le _, Nat.zero_le _⟩) hP hD hS hA (fun H locs hP hD hS => ?_)
        refine lv_if_eq (tgt := 63) hx hb dX5_control_49 (by decide) (fun c_13 => ?_) (fun c_13 => ?_)
        ·
          refine lv_aload_n hx hb dX5_control_63 rfl (lv_at hl 3 rfl) ?_
          refine go_i (rn_V (ci := 5) (q0 := 0) X (c_X5_illegal l D q ca sz mo hk E ) ok_X5_illegal wd_621 ⟨by decide, by decide⟩ hP hD rfl rfl rfl hl.1 rfl (Nat.le_of_ble_eq_true rfl) dX5_control_64 ⟨Nat.zero_le _, Nat.zero_le _⟩) hP hD hS hA (fun H locs hP hD hS => ?_)
          exact rmu_i (v := (f_X5_illegal sz mo E).1) (F := (f_X5_control sz mo E)) (E1 := (f_X5_illegal sz mo E).2) (by unfold f_X5_control; rw [if_neg c_1, if_neg c_8, if_neg c_12, if_pos c_13]; try rfl) X hP hD hS hAe hr hlk dX5_control_67
        ·
          refine lv_iload_n hx hb dX5_control_52 rfl (lv_at hl 0 rfl) ?_
          refine lv_if_eq (tgt := 68) hx hb dX5_control_53 (by decide) (fun h => absurd h (by decide)) (fun _ => ?_)
          refine lv_iload_n hx hb dX5_control_56 rfl (lv_at hl 2 rfl) ?_
          refine lv_sipush (v := (3072 : Int32)) hx hb dX5_control_57 (by decide) ?_
          refine lv_icmp_lt (tgt := 68) hx hb dX5_control_60 (by decide) (fun c_14 => ?_) (fun c_14 => ?_)
          ·
            refine lv_aload_n hx hb dX5_control_68 rfl (lv_at hl 3 rfl) ?_
            refine lv_iload_n hx hb dX5_control_69 rfl (lv_at hl 2 rfl) ?_
            refine go_i (rn_V (ci := 5) (q0 := 0) X (c_X5_csr l D q ca sz mo hk E (((mword E) >>> ((20 : Int32) &&& 31)) &&& (4095 : Int32))) ok_X5_csr wd_590 ⟨by decide, by decide⟩ hP hD rfl rfl rfl hl.1 rfl (Nat.le_of_ble_eq_true rfl) dX5_control_70 ⟨Nat.zero_le _, Nat.zero_le _⟩) hP hD hS hA (fun H locs hP hD hS => ?_)
            refine lv_istore (lv' := [(4, .int (f_X5_csr sz mo E (((mword E) >>> ((20 : Int32) &&& 31)) &&& (4095 : Int32)))), (3, .int (1 : Int32)), (2, .int ((mf E) &&& (3 : Int32))), (1, .int (((mword E) >>> ((20 : Int32) &&& 31)) &&& (4095 : Int32))), (0, .ref (q 0))]) hx hb dX5_control_73 hl (by decide) rfl (fun ls hl => ?_)
            refine lv_aload_n hx hb dX5_control_75 rfl (lv_at hl 4 rfl) ?_
            refine gf_X5_127 X hP dX5_control_76 ?_
            refine lv_iconst (v := (4 : Int32)) hx hb dX5_control_79 (by decide) ?_
            refine lv_icmp_ge (tgt := 95) hx hb dX5_control_80 (by decide) (fun c_15 => ?_) (fun c_15 => ?_)
            ·
              refine lv_aload_n hx hb dX5_control_95 rfl (lv_at hl 4 rfl) ?_
              refine gf_X5_130 X hP dX5_control_96 ?_
              refine lv_istore (lv' := [(5, .int (ms E)), (4, .int (f_X5_csr sz mo E (((mword E) >>> ((20 : Int32) &&& 31)) &&& (4095 : Int32)))), (3, .int (1 : Int32)), (2, .int ((mf E) &&& (3 : Int32))), (1, .int (((mword E) >>> ((20 : Int32) &&& 31)) &&& (4095 : Int32))), (0, .ref (q 0))]) hx hb dX5_control_99 hl (by decide) rfl (fun ls hl => ?_)
              refine lv_iload_n hx hb dX5_control_101 rfl (lv_at hl 2 rfl) ?_
              refine lv_if_eq (tgt := 140) hx hb dX5_control_102 (by decide) (fun h => absurd h (by decide)) (fun _ => ?_)
              refine lv_aload_n hx hb dX5_control_105 rfl (lv_at hl 5 rfl) ?_
              refine lv_iload_n hx hb dX5_control_106 rfl (lv_at hl 4 rfl) ?_
              refine lv_iload_n hx hb dX5_control_107 rfl (lv_at hl 3 rfl) ?_
              refine lv_iconst (v := (1 : Int32)) hx hb dX5_control_108 (by decide) ?_
              refine lv_icmp_ne (tgt := 117) hx hb dX5_control_109 (by decide) (fun _ => ?_) (fun h => absurd h c_1)
              refine lv_iload_n hx hb dX5_control_117 rfl (lv_at hl 3 rfl) ?_
              refine lv_iconst (v := (2 : Int32)) hx hb dX5_control_118 (by decide) ?_
              refine lv_icmp_ne (tgt := 130) hx hb dX5_control_119 (by decide) (fun c_17 => ?_) (fun c_17 => ?_)
              ·
                refine lv_iload hx hb dX5_control_130 (lv_at hl 1 rfl) ?_
                refine lv_iload hx hb dX5_control_132 (lv_at hl 0 rfl) ?_
                refine lv_iconst (v := (-1 : Int32)) hx hb dX5_control_134 (by decide) ?_
                refine lv_ixor hx hb dX5_control_135 ?_
                refine lv_iand hx hb dX5_control_136 ?_
                refine go_v (rn_V (ci := 5) (q0 := 0) X (c_X5_setCsr l D q ca sz mo hk E (((mword E) >>> ((20 : Int32) &&& 31)) &&& (4095 : Int32)) ((f_X5_csr sz mo E (((mword E) >>> ((20 : Int32) &&& 31)) &&& (4095 : Int32))) &&& ((ms E) ^^^ (-1 : Int32)))) ok_X5_setCsr wd_683 ⟨by decide, by decide⟩ hP hD rfl rfl rfl hl.1 rfl (Nat.le_of_ble_eq_true rfl) dX5_control_137 ⟨Nat.zero_le _, Nat.zero_le _⟩) hP hD hS hA (fun H locs hP hD hS => ?_)
                refine lv_aload_n hx hb dX5_control_140 rfl (lv_at hl 5 rfl) ?_
                refine lv_iload hx hb dX5_control_141 (lv_at hl 1 rfl) ?_
                refine go_i (rn_V (ci := 5) (q0 := 0) X (c_X5_become l D q ca sz mo hk (f_X5_setCsr sz mo E (((mword E) >>> ((20 : Int32) &&& 31)) &&& (4095 : Int32)) ((f_X5_csr sz mo E (((mword E) >>> ((20 : Int32) &&& 31)) &&& (4095 : Int32))) &&& ((ms E) ^^^ (-1 : Int32)))) (f_X5_csr sz mo E (((mword E) >>> ((20 : Int32) &&& 31)) &&& (4095 : Int32))) (md_setCsr hd.1)) ok_X5_become wd_608 ⟨by decide, by decide⟩ hP hD rfl rfl rfl hl.1 rfl (Nat.le_of_ble_eq_true rfl) dX5_control_143 ⟨Nat.zero_le _, Nat.zero_le _⟩) hP hD hS hA (fun H locs hP hD hS => ?_)
                exact rmu_i (v := (f_X5_become sz mo (f_X5_setCsr sz mo E (((mword E) >>> ((20 : Int32) &&& 31)) &&& (4095 : Int32)) ((f_X5_csr sz mo E (((mword E) >>> ((20 : Int32) &&& 31)) &&& (4095 : Int32))) &&& ((ms E) ^^^ (-1 : Int32)))) (f_X5_csr sz mo E (((mword E) >>> ((20 : Int32) &&& 31)) &&& (4095 : Int32)))).1) (F := (f_X5_control sz mo E)) (E1 := (f_X5_become sz mo (f_X5_setCsr sz mo E (((mword E) >>> ((20 : Int32) &&& 31)) &&& (4095 : Int32)) ((f_X5_csr sz mo E (((mword E) >>> ((20 : Int32) &&& 31)) &&& (4095 : Int32))) &&& ((ms E) ^^^ (-1 : Int32)))) (f_X5_csr sz mo E (((mword E) >>> ((20 : Int32) &&& 31)) &&& (4095 : Int32)))).2) (by unfold f_X5_control; rw [if_neg c_1, if_neg c_8, if_neg c_12, if_neg c_13, if_pos c_14, if_pos c_15, if_neg c_17]; try rfl) X hP hD hS hAe hr hlk dX5_control_146
              ·
                refine lv_iload hx hb dX5_control_122 (lv_at hl 1 rfl) ?_
                refine lv_iload hx hb dX5_control_124 (lv_at hl 0 rfl) ?_
                refine lv_ior hx hb dX5_control_126 ?_
                refine lv_goto (tgt := 137) hx hb dX5_control_127 (by decide) ?_
                refine go_v (rn_V (ci := 5) (q0 := 0) X (c_X5_setCsr l D q ca sz mo hk E (((mword E) >>> ((20 : Int32) &&& 31)) &&& (4095 : Int32)) ((f_X5_csr sz mo E (((mword E) >>> ((20 : Int32) &&& 31)) &&& (4095 : Int32))) ||| (ms E))) ok_X5_setCsr wd_683 ⟨by decide, by decide⟩ hP hD rfl rfl rfl hl.1 rfl (Nat.le_of_ble_eq_true rfl) dX5_control_137 ⟨Nat.zero_le _, Nat.zero_le _⟩) hP hD hS hA (fun H locs hP hD hS => ?_)
                refine lv_aload_n hx hb dX5_control_140 rfl (lv_at hl 5 rfl) ?_
                refine lv_iload hx hb dX5_control_141 (lv_at hl 1 rfl) ?_
                refine go_i (rn_V (ci := 5) (q0 := 0) X (c_X5_become l D q ca sz mo hk (f_X5_setCsr sz mo E (((mword E) >>> ((20 : Int32) &&& 31)) &&& (4095 : Int32)) ((f_X5_csr sz mo E (((mword E) >>> ((20 : Int32) &&& 31)) &&& (4095 : Int32))) ||| (ms E))) (f_X5_csr sz mo E (((mword E) >>> ((20 : Int32) &&& 31)) &&& (4095 : Int32))) (md_setCsr hd.1)) ok_X5_become wd_608 ⟨by decide, by decide⟩ hP hD rfl rfl rfl hl.1 rfl (Nat.le_of_ble_eq_true rfl) dX5_control_143 ⟨Nat.zero_le _, Nat.zero_le _⟩) hP hD hS hA (fun H locs hP hD hS => ?_)
                exact rmu_i (v := (f_X5_become sz mo (f_X5_setCsr sz mo E (((mword E) >>> ((20 : Int32) &&& 31)) &&& (4095 : Int32)) ((f_X5_csr sz mo E (((mword E) >>> ((20 : Int32) &&& 31)) &&& (4095 : Int32))) ||| (ms E))) (f_X5_csr sz mo E (((mword E) >>> ((20 : Int32) &&& 31)) &&& (4095 : Int32)))).1) (F := (f_X5_control sz mo E)) (E1 := (f_X5_become sz mo (f_X5_setCsr sz mo E (((mword E) >>> ((20 : Int32) &&& 31)) &&& (4095 : Int32)) ((f_X5_csr sz mo E (((mword E) >>> ((20 : Int32) &&& 31)) &&& (4095 : Int32))) ||| (ms E))) (f_X5_csr sz mo E (((mword E) >>> ((20 : Int32) &&& 31)) &&& (4095 : Int32)))).2) (by unfold f_X5_control; rw [if_neg c_1, if_neg c_8, if_neg c_12, if_neg c_13, if_pos c_14, if_pos c_15, if_pos c_17]; try rfl) X hP hD hS hAe hr hlk dX5_control_146
            ·
              refine lv_aload_n hx hb dX5_control_83 rfl (lv_at hl 4 rfl) ?_
              refine gf_X5_14 X hP dX5_control_84 ?_
              refine lv_aload_n hx hb dX5_control_87 rfl (lv_at hl 4 rfl) ?_
              refine gf_X5_130 X hP dX5_control_88 ?_
              refine mld_2 X hP hd.2.1 dX5_control_91 ?_
              refine lv_goto (tgt := 99) hx hb dX5_control_92 (by decide) ?_
              refine lv_istore (lv' := [(5, .int (mx E ((ms E)).toNatClampNeg)), (4, .int (f_X5_csr sz mo E (((mword E) >>> ((20 : Int32) &&& 31)) &&& (4095 : Int32)))), (3, .int (1 : Int32)), (2, .int ((mf E) &&& (3 : Int32))), (1, .int (((mword E) >>> ((20 : Int32) &&& 31)) &&& (4095 : Int32))), (0, .ref (q 0))]) hx hb dX5_control_99 hl (by decide) rfl (fun ls hl => ?_)
              refine lv_iload_n hx hb dX5_control_101 rfl (lv_at hl 2 rfl) ?_
              refine lv_if_eq (tgt := 140) hx hb dX5_control_102 (by decide) (fun h => absurd h (by decide)) (fun _ => ?_)
              refine lv_aload_n hx hb dX5_control_105 rfl (lv_at hl 5 rfl) ?_
              refine lv_iload_n hx hb dX5_control_106 rfl (lv_at hl 4 rfl) ?_
              refine lv_iload_n hx hb dX5_control_107 rfl (lv_at hl 3 rfl) ?_
              refine lv_iconst (v := (1 : Int32)) hx hb dX5_control_108 (by decide) ?_
              refine lv_icmp_ne (tgt := 117) hx hb dX5_control_109 (by decide) (fun _ => ?_) (fun h => absurd h c_1)
              refine lv_iload_n hx hb dX5_control_117 rfl (lv_at hl 3 rfl) ?_
              refine lv_iconst (v := (2 : Int32)) hx hb dX5_control_118 (by decide) ?_
              refine lv_icmp_ne (tgt := 130) hx hb dX5_control_119 (by decide) (fun c_19 => ?_) (fun c_19 => ?_)
              ·
                refine lv_iload hx hb dX5_control_130 (lv_at hl 1 rfl) ?_
                refine lv_iload hx hb dX5_control_132 (lv_at hl 0 rfl) ?_
                refine lv_iconst (v := (-1 : Int32)) hx hb dX5_control_134 (by decide) ?_
                refine lv_ixor hx hb dX5_control_135 ?_
                refine lv_iand hx hb dX5_control_136 ?_
                refine go_v (rn_V (ci := 5) (q0 := 0) X (c_X5_setCsr l D q ca sz mo hk E (((mword E) >>> ((20 : Int32) &&& 31)) &&& (4095 : Int32)) ((f_X5_csr sz mo E (((mword E) >>> ((20 : Int32) &&& 31)) &&& (4095 : Int32))) &&& ((mx E ((ms E)).toNatClampNeg) ^^^ (-1 : Int32)))) ok_X5_setCsr wd_683 ⟨by decide, by decide⟩ hP hD rfl rfl rfl hl.1 rfl (Nat.le_of_ble_eq_true rfl) dX5_control_137 ⟨Nat.zero_le _, Nat.zero_le _⟩) hP hD hS hA (fun H locs hP hD hS => ?_)
                refine lv_aload_n hx hb dX5_control_140 rfl (lv_at hl 5 rfl) ?_
                refine lv_iload hx hb dX5_control_141 (lv_at hl 1 rfl) ?_
                refine go_i (rn_V (ci := 5) (q0 := 0) X (c_X5_become l D q ca sz mo hk (f_X5_setCsr sz mo E (((mword E) >>> ((20 : Int32) &&& 31)) &&& (4095 : Int32)) ((f_X5_csr sz mo E (((mword E) >>> ((20 : Int32) &&& 31)) &&& (4095 : Int32))) &&& ((mx E ((ms E)).toNatClampNeg) ^^^ (-1 : Int32)))) (f_X5_csr sz mo E (((mword E) >>> ((20 : Int32) &&& 31)) &&& (4095 : Int32))) (md_setCsr hd.1)) ok_X5_become wd_608 ⟨by decide, by decide⟩ hP hD rfl rfl rfl hl.1 rfl (Nat.le_of_ble_eq_true rfl) dX5_control_143 ⟨Nat.zero_le _, Nat.zero_le _⟩) hP hD hS hA (fun H locs hP hD hS => ?_)
                exact rmu_i (v := (f_X5_become sz mo (f_X5_setCsr sz mo E (((mword E) >>> ((20 : Int32) &&& 31)) &&& (4095 : Int32)) ((f_X5_csr sz mo E (((mword E) >>> ((20 : Int32) &&& 31)) &&& (4095 : Int32))) &&& ((mx E ((ms E)).toNatClampNeg) ^^^ (-1 : Int32)))) (f_X5_csr sz mo E (((mword E) >>> ((20 : Int32) &&& 31)) &&& (4095 : Int32)))).1) (F := (f_X5_control sz mo E)) (E1 := (f_X5_become sz mo (f_X5_setCsr sz mo E (((mword E) >>> ((20 : Int32) &&& 31)) &&& (4095 : Int32)) ((f_X5_csr sz mo E (((mword E) >>> ((20 : Int32) &&& 31)) &&& (4095 : Int32))) &&& ((mx E ((ms E)).toNatClampNeg) ^^^ (-1 : Int32)))) (f_X5_csr sz mo E (((mword E) >>> ((20 : Int32) &&& 31)) &&& (4095 : Int32)))).2) (by unfold f_X5_control; rw [if_neg c_1, if_neg c_8, if_neg c_12, if_neg c_13, if_pos c_14, if_neg c_15, if_neg c_19]; try rfl) X hP hD hS hAe hr hlk dX5_control_146
              ·
                refine lv_iload hx hb dX5_control_122 (lv_at hl 1 rfl) ?_
                refine lv_iload hx hb dX5_control_124 (lv_at hl 0 rfl) ?_
                refine lv_ior hx hb dX5_control_126 ?_
                refine lv_goto (tgt := 137) hx hb dX5_control_127 (by decide) ?_
                refine go_v (rn_V (ci := 5) (q0 := 0) X (c_X5_setCsr l D q ca sz mo hk E (((mword E) >>> ((20 : Int32) &&& 31)) &&& (4095 : Int32)) ((f_X5_csr sz mo E (((mword E) >>> ((20 : Int32) &&& 31)) &&& (4095 : Int32))) ||| (mx E ((ms E)).toNatClampNeg))) ok_X5_setCsr wd_683 ⟨by decide, by decide⟩ hP hD rfl rfl rfl hl.1 rfl (Nat.le_of_ble_eq_true rfl) dX5_control_137 ⟨Nat.zero_le _, Nat.zero_le _⟩) hP hD hS hA (fun H locs hP hD hS => ?_)
                refine lv_aload_n hx hb dX5_control_140 rfl (lv_at hl 5 rfl) ?_
                refine lv_iload hx hb dX5_control_141 (lv_at hl 1 rfl) ?_
                refine go_i (rn_V (ci := 5) (q0 := 0) X (c_X5_become l D q ca sz mo hk (f_X5_setCsr sz mo E (((mword E) >>> ((20 : Int32) &&& 31)) &&& (4095 : Int32)) ((f_X5_csr sz mo E (((mword E) >>> ((20 : Int32) &&& 31)) &&& (4095 : Int32))) ||| (mx E ((ms E)).toNatClampNeg))) (f_X5_csr sz mo E (((mword E) >>> ((20 : Int32) &&& 31)) &&& (4095 : Int32))) (md_setCsr hd.1)) ok_X5_become wd_608 ⟨by decide, by decide⟩ hP hD rfl rfl rfl hl.1 rfl (Nat.le_of_ble_eq_true rfl) dX5_control_143 ⟨Nat.zero_le _, Nat.zero_le _⟩) hP hD hS hA (fun H locs hP hD hS => ?_)
                exact rmu_i (v := (f_X5_become sz mo (f_X5_setCsr sz mo E (((mword E) >>> ((20 : Int32) &&& 31)) &&& (4095 : Int32)) ((f_X5_csr sz mo E (((mword E) >>> ((20 : Int32) &&& 31)) &&& (4095 : Int32))) ||| (mx E ((ms E)).toNatClampNeg))) (f_X5_csr sz mo E (((mword E) >>> ((20 : Int32) &&& 31)) &&& (4095 : Int32)))).1) (F := (f_X5_control sz mo E)) (E1 := (f_X5_become sz mo (f_X5_setCsr sz mo E (((mword E) >>> ((20 : Int32) &&& 31)) &&& (4095 : Int32)) ((f_X5_csr sz mo E (((mword E) >>> ((20 : Int32) &&& 31)) &&& (4095 : Int32))) ||| (mx E ((ms E)).toNatClampNeg))) (f_X5_csr sz mo E (((mword E) >>> ((20 : Int32) &&& 31)) &&& (4095 : Int32)))).2) (by unfold f_X5_control; rw [if_neg c_1, if_neg c_8, if_neg c_12, if_neg c_13, if_pos c_14, if_neg c_15, if_pos c_19]; try rfl) X hP hD hS hAe hr hlk dX5_control_146
          ·
            refine lv_aload_n hx hb dX5_control_63 rfl (lv_at hl 3 rfl) ?_
            refine go_i (rn_V (ci := 5) (q0 := 0) X (c_X5_illegal l D q ca sz mo hk E ) ok_X5_illegal wd_621 ⟨by decide, by decide⟩ hP hD rfl rfl rfl hl.1 rfl (Nat.le_of_ble_eq_true rfl) dX5_control_64 ⟨Nat.zero_le _, Nat.zero_le _⟩) hP hD hS hA (fun H locs hP hD hS => ?_)
            exact rmu_i (v := (f_X5_illegal sz mo E).1) (F := (f_X5_control sz mo E)) (E1 := (f_X5_illegal sz mo E).2) (by unfold f_X5_control; rw [if_neg c_1, if_neg c_8, if_neg c_12, if_neg c_13, if_neg c_14]; try rfl) X hP hD hS hAe hr hlk dX5_control_67
set_option maxHeartbeats 4000000 in
set_option maxRecDepth 100000 in
theorem c_X5_immediate (l : Launch) (D : va_G) (q : Nat → Nat) (ca : Nat → ClassId) (sz mo : Int32) (hk : MOk sz mo) (E : MS) : Mt l yX5_immediate cX5_immediate 1 (some .int) 0 D (tysM ca) [.ref (q 0)] (cwM q ca sz mo E) (QcI D (cwM q ca sz mo E) (cwM q ca sz mo E) (f_X5_immediate sz mo E)) := by
  refine ent (own := RX5) rfl (by decide) (Nat.le_of_ble_eq_true rfl) ?_
  intro p e s m below meth c A ls X hr hlk hmn hAe hA hP hD hS hl
  have hx := X.1.1
  have hb := X.1.2.1
  have hl : lv_has ls 1 [(0, .ref (q 0))] := hl
  refine lv_aload_n hx hb dX5_immediate_0 rfl (lv_at hl 0 rfl) ?_
  refine gf_X5_118 X hP dX5_immediate_1 ?_
  refine lv_bipush (v := (20 : Int32)) hx hb dX5_immediate_4 (by decide) ?_
  refine lv_ishr hx hb dX5_immediate_6 ?_
  exact rg_i (v := ((mword E) >>> ((20 : Int32) &&& 31))) (F := (f_X5_immediate sz mo E)) rfl X hP hD hS hAe hr hlk dX5_immediate_7
set_option maxHeartbeats 4000000 in
set_option maxRecDepth 100000 in
theorem c_X5_isClock (l : Launch) (D : va_G) (tys : List (ClassId × FieldType)) (ws : va_W) (a1 : Int32) : Mt l yX5_isClock cX5_isClock 1 (some .boolean) 0 D tys [.int a1] ws (QcI D ws ws (b2i (f_X5_isClock a1))) := by
  refine ent (own := RX5) rfl (by decide) (Nat.le_of_ble_eq_true rfl) ?_
  intro p e s m below meth c A ls X hr hlk hmn hAe hA hP hD hS hl
  have hx := X.1.1
  have hb := X.1.2.1
  have hl : lv_has ls 1 [(0, .int a1)] := hl
  refine lv_iload_n hx hb dX5_isClock_0 rfl (lv_at hl 0 rfl) ?_
  refine lv_ldc (v := (33603576 : Int32)) hx hb X.1.2.2.2.1 (X.1.2.2.2.2 _ wd_643) dX5_isClock_1 ?_
  refine lv_icmp_eq (tgt := 24) hx hb dX5_isClock_3 (by decide) (fun c_1 => ?_) (fun c_1 => ?_)
  ·
    refine lv_iconst (v := (1 : Int32)) hx hb dX5_isClock_24 (by decide) ?_
    refine lv_goto (tgt := 29) hx hb dX5_isClock_25 (by decide) ?_
    exact rg_z (v := true) (F := (f_X5_isClock a1)) (by unfold f_X5_isClock; rw [if_pos c_1]; try rfl) X hP hD hS hAe hr hlk dX5_isClock_29
  ·
    refine lv_iload_n hx hb dX5_isClock_6 rfl (lv_at hl 0 rfl) ?_
    refine lv_ldc (v := (33603580 : Int32)) hx hb X.1.2.2.2.1 (X.1.2.2.2.2 _ wd_644) dX5_isClock_7 ?_
    refine lv_icmp_eq (tgt := 24) hx hb dX5_isClock_9 (by decide) (fun c_2 => ?_) (fun c_2 => ?_)
    ·
      refine lv_iconst (v := (1 : Int32)) hx hb dX5_isClock_24 (by decide) ?_
      refine lv_goto (tgt := 29) hx hb dX5_isClock_25 (by decide) ?_
      exact rg_z (v := true) (F := (f_X5_isClock a1)) (by unfold f_X5_isClock; rw [if_neg c_1, if_pos c_2]; try rfl) X hP hD hS hAe hr hlk dX5_isClock_29
    ·
      refine lv_iload_n hx hb dX5_isClock_12 rfl (lv_at hl 0 rfl) ?_
      refine lv_ldc (v := (33570816 : Int32)) hx hb X.1.2.2.2.1 (X.1.2.2.2.2 _ wd_645) dX5_isClock_13 ?_
      refine lv_icmp_eq (tgt := 24) hx hb dX5_isClock_15 (by decide) (fun c_3 => ?_) (fun c_3 => ?_)
      ·
        refine lv_iconst (v := (1 : Int32)) hx hb dX5_isClock_24 (by decide) ?_
        refine lv_goto (tgt := 29) hx hb dX5_isClock_25 (by decide) ?_
        exact rg_z (v := true) (F := (f_X5_isClock a1)) (by unfold f_X5_isClock; rw [if_neg c_1, if_neg c_2, if_pos c_3]; try rfl) X hP hD hS hAe hr hlk dX5_isClock_29
      ·
        refine lv_iload_n hx hb dX5_isClock_18 rfl (lv_at hl 0 rfl) ?_
        refine lv_ldc (v := (33570820 : Int32)) hx hb X.1.2.2.2.1 (X.1.2.2.2.2 _ wd_646) dX5_isClock_19 ?_
        refine lv_icmp_ne (tgt := 28) hx hb dX5_isClock_21 (by decide) (fun c_4 => ?_) (fun c_4 => ?_)
        ·
          refine lv_iconst (v := (0 : Int32)) hx hb dX5_isClock_28 (by decide) ?_
          exact rg_z (v := false) (F := (f_X5_isClock a1)) (by unfold f_X5_isClock; rw [if_neg c_1, if_neg c_2, if_neg c_3, if_neg c_4]; try rfl) X hP hD hS hAe hr hlk dX5_isClock_29
        ·
          refine lv_iconst (v := (1 : Int32)) hx hb dX5_isClock_24 (by decide) ?_
          refine lv_goto (tgt := 29) hx hb dX5_isClock_25 (by decide) ?_
          exact rg_z (v := true) (F := (f_X5_isClock a1)) (by unfold f_X5_isClock; rw [if_neg c_1, if_neg c_2, if_neg c_3, if_pos c_4]; try rfl) X hP hD hS hAe hr hlk dX5_isClock_29
set_option maxHeartbeats 4000000 in
set_option maxRecDepth 100000 in
theorem c_X5_isDevice (l : Launch) (D : va_G) (tys : List (ClassId × FieldType)) (ws : va_W) (a1 : Int32) : Mt l yX5_isDevice cX5_isDevice 1 (some .boolean) 1 D tys [.int a1] ws (QcI D ws ws (b2i (f_X5_isDevice a1))) := by
  refine ent (own := RX5) rfl (by decide) (Nat.le_of_ble_eq_true rfl) ?_
  intro p e s m below meth c A ls X hr hlk hmn hAe hA hP hD hS hl
  have hx := X.1.1
  have hb := X.1.2.1
  have hl : lv_has ls 1 [(0, .int a1)] := hl
  refine lv_iload_n hx hb dX5_isDevice_0 rfl (lv_at hl 0 rfl) ?_
  refine go_i (rn_S X (c_X5_isClock l D _ _ a1) ok_X5_isClock wd_640 ⟨by decide, by decide⟩ hP hD rfl hl.1 rfl (Nat.le_of_ble_eq_true rfl) dX5_isDevice_1 ⟨Nat.zero_le _, Nat.zero_le _⟩) hP hD hS hA (fun H locs hP hD hS => ?_)
  refine lv_if_ne (tgt := 13) hx hb dX5_isDevice_4 (by decide) (fun c_1 => ?_) (fun c_1 => ?_)
  ·
    refine lv_iconst (v := (1 : Int32)) hx hb dX5_isDevice_13 (by decide) ?_
    refine lv_goto (tgt := 18) hx hb dX5_isDevice_14 (by decide) ?_
    exact rg_z (v := true) (F := (f_X5_isDevice a1)) (by unfold f_X5_isDevice; rw [if_neg c_1]; try rfl) X hP hD hS hAe hr hlk dX5_isDevice_18
  ·
    refine lv_iload_n hx hb dX5_isDevice_7 rfl (lv_at hl 0 rfl) ?_
    refine lv_ldc (v := (268435456 : Int32)) hx hb X.1.2.2.2.1 (X.1.2.2.2.2 _ wd_647) dX5_isDevice_8 ?_
    refine lv_icmp_ne (tgt := 17) hx hb dX5_isDevice_10 (by decide) (fun c_2 => ?_) (fun c_2 => ?_)
    ·
      refine lv_iconst (v := (0 : Int32)) hx hb dX5_isDevice_17 (by decide) ?_
      exact rg_z (v := false) (F := (f_X5_isDevice a1)) (by unfold f_X5_isDevice; rw [if_pos c_1, if_neg c_2]; try rfl) X hP hD hS hAe hr hlk dX5_isDevice_18
    ·
      refine lv_iconst (v := (1 : Int32)) hx hb dX5_isDevice_13 (by decide) ?_
      refine lv_goto (tgt := 18) hx hb dX5_isDevice_14 (by decide) ?_
      exact rg_z (v := true) (F := (f_X5_isDevice a1)) (by unfold f_X5_isDevice; rw [if_pos c_1, if_pos c_2]; try rfl) X hP hD hS hAe hr hlk dX5_isDevice_18
set_option maxHeartbeats 4000000 in
set_option maxRecDepth 100000 in
theorem c_X5_read (l : Launch) (D : va_G) (q : Nat → Nat) (ca : Nat → ClassId) (sz mo : Int32) (hk : MOk sz mo) (E : MS) (hd : mDec E) : Mt l yX5_read cX5_read 4 (some .int) 2 D (tysM ca) [.ref (q 0)] (cwM q ca sz mo E) (QcI D (cwM q ca sz mo E) (cwM q ca sz mo (f_X5_read sz mo E).2) (f_X5_read sz mo E).1) := by
  refine ent (own := RX5) rfl (by decide) (Nat.le_of_ble_eq_true rfl) ?_
  intro p e s m below meth c A ls X hr hlk hmn hAe hA hP hD hS hl
  have hx := X.1.1
  have hb := X.1.2.1
  have hl : lv_has ls 4 [(0, .ref (q 0))] := hl
  refine lv_aload_n hx hb dX5_read_0 rfl (lv_at hl 0 rfl) ?_
  refine gf_X5_127 X hP dX5_read_1 ?_
  refine lv_iconst (v := (3 : Int32)) hx hb dX5_read_4 (by decide) ?_
  refine lv_icmp_eq (tgt := 16) hx hb dX5_read_5 (by decide) (fun c_1 => ?_) (fun c_1 => ?_)
  ·
    refine lv_aload_n hx hb dX5_read_16 rfl (lv_at hl 0 rfl) ?_
    refine go_i (rn_V (ci := 5) (q0 := 0) X (c_X5_illegal l D q ca sz mo hk E ) ok_X5_illegal wd_621 ⟨by decide, by decide⟩ hP hD rfl rfl rfl hl.1 rfl (Nat.le_of_ble_eq_true rfl) dX5_read_17 ⟨Nat.zero_le _, Nat.zero_le _⟩) hP hD hS hA (fun H locs hP hD hS => ?_)
    exact rmu_i (v := (f_X5_illegal sz mo E).1) (F := (f_X5_read sz mo E)) (E1 := (f_X5_illegal sz mo E).2) (by unfold f_X5_read; rw [if_pos c_1]; try rfl) X hP hD hS hAe hr hlk dX5_read_20
  ·
    refine lv_aload_n hx hb dX5_read_8 rfl (lv_at hl 0 rfl) ?_
    refine gf_X5_127 X hP dX5_read_9 ?_
    refine lv_iconst (v := (5 : Int32)) hx hb dX5_read_12 (by decide) ?_
    refine lv_icmp_le (tgt := 21) hx hb dX5_read_13 (by decide) (fun c_2 => ?_) (fun c_2 => ?_)
    ·
      refine lv_aload_n hx hb dX5_read_21 rfl (lv_at hl 0 rfl) ?_
      refine gf_X5_14 X hP dX5_read_22 ?_
      refine lv_aload_n hx hb dX5_read_25 rfl (lv_at hl 0 rfl) ?_
      refine gf_X5_130 X hP dX5_read_26 ?_
      refine mld_2 X hP hd.2.1 dX5_read_29 ?_
      refine lv_aload_n hx hb dX5_read_30 rfl (lv_at hl 0 rfl) ?_
      refine go_i (rn_V (ci := 5) (q0 := 0) X (c_X5_immediate l D q ca sz mo hk E ) ok_X5_immediate wd_617 ⟨by decide, by decide⟩ hP hD rfl rfl rfl hl.1 rfl (Nat.le_of_ble_eq_true rfl) dX5_read_31 ⟨Nat.zero_le _, Nat.zero_le _⟩) hP hD hS hA (fun H locs hP hD hS => ?_)
      refine lv_iadd hx hb dX5_read_34 ?_
      refine lv_istore_n (lv' := [(1, .int ((mx E ((ms E)).toNatClampNeg) + (f_X5_immediate sz mo E))), (0, .ref (q 0))]) hx hb dX5_read_35 rfl hl (by decide) rfl (fun ls hl => ?_)
      refine lv_iconst (v := (1 : Int32)) hx hb dX5_read_36 (by decide) ?_
      refine lv_aload_n hx hb dX5_read_37 rfl (lv_at hl 1 rfl) ?_
      refine gf_X5_127 X hP dX5_read_38 ?_
      refine lv_iconst (v := (3 : Int32)) hx hb dX5_read_41 (by decide) ?_
      refine lv_iand hx hb dX5_read_42 ?_
      refine lv_ishl hx hb dX5_read_43 ?_
      refine lv_istore_n (lv' := [(2, .int ((1 : Int32) <<< (((mf E) &&& (3 : Int32)) &&& 31))), (1, .int ((mx E ((ms E)).toNatClampNeg) + (f_X5_immediate sz mo E))), (0, .ref (q 0))]) hx hb dX5_read_44 rfl hl (by decide) rfl (fun ls hl => ?_)
      refine lv_iload_n hx hb dX5_read_45 rfl (lv_at hl 1 rfl) ?_
      refine lv_iload_n hx hb dX5_read_46 rfl (lv_at hl 0 rfl) ?_
      refine lv_iconst (v := (1 : Int32)) hx hb dX5_read_47 (by decide) ?_
      refine lv_isub hx hb dX5_read_48 ?_
      refine lv_iand hx hb dX5_read_49 ?_
      refine lv_if_eq (tgt := 60) hx hb dX5_read_50 (by decide) (fun c_3 => ?_) (fun c_3 => ?_)
      ·
        refine lv_iconst (v := (0 : Int32)) hx hb dX5_read_60 (by decide) ?_
        refine lv_istore_n (lv' := [(3, .int (0 : Int32)), (2, .int ((1 : Int32) <<< (((mf E) &&& (3 : Int32)) &&& 31))), (1, .int ((mx E ((ms E)).toNatClampNeg) + (f_X5_immediate sz mo E))), (0, .ref (q 0))]) hx hb dX5_read_61 rfl hl (by decide) rfl (fun ls hl => ?_)
        refine lv_aload_n hx hb dX5_read_62 rfl (lv_at hl 3 rfl) ?_
        refine lv_iload_n hx hb dX5_read_63 rfl (lv_at hl 2 rfl) ?_
        refine lv_iload_n hx hb dX5_read_64 rfl (lv_at hl 1 rfl) ?_
        refine go_i (rn_V (ci := 5) (q0 := 0) X (c_X5_isThere l D q ca sz mo hk E ((mx E ((ms E)).toNatClampNeg) + (f_X5_immediate sz mo E)) ((1 : Int32) <<< (((mf E) &&& (3 : Int32)) &&& 31))) ok_X5_isThere wd_556 ⟨by decide, by decide⟩ hP hD rfl rfl rfl hl.1 rfl (Nat.le_of_ble_eq_true rfl) dX5_read_65 ⟨Nat.zero_le _, Nat.zero_le _⟩) hP hD hS hA (fun H locs hP hD hS => ?_)
        refine lv_if_eq (tgt := 81) hx hb dX5_read_68 (by decide) (fun c_4 => ?_) (fun c_4 => ?_)
        ·
          refine lv_iload_n hx hb dX5_read_81 rfl (lv_at hl 1 rfl) ?_
          refine lv_iconst (v := (4 : Int32)) hx hb dX5_read_82 (by decide) ?_
          refine lv_icmp_ne (tgt := 168) hx hb dX5_read_83 (by decide) (fun c_5 => ?_) (fun c_5 => ?_)
          ·
            refine lv_aload_n hx hb dX5_read_168 rfl (lv_at hl 3 rfl) ?_
            refine lv_iconst (v := (5 : Int32)) hx hb dX5_read_169 (by decide) ?_
            refine lv_iload_n hx hb dX5_read_170 rfl (lv_at hl 2 rfl) ?_
            refine go_i (rn_V (ci := 5) (q0 := 0) X (c_X5_trap l D q ca sz mo hk E (5 : Int32) ((mx E ((ms E)).toNatClampNeg) + (f_X5_immediate sz mo E))) ok_X5_trap wd_592 ⟨by decide, by decide⟩ hP hD rfl rfl rfl hl.1 rfl (Nat.le_of_ble_eq_true rfl) dX5_read_171 ⟨Nat.zero_le _, Nat.zero_le _⟩) hP hD hS hA (fun H locs hP hD hS => ?_)
            exact rmu_i (v := (f_X5_trap sz mo E (5 : Int32) ((mx E ((ms E)).toNatClampNeg) + (f_X5_immediate sz mo E))).1) (F := (f_X5_read sz mo E)) (E1 := (f_X5_trap sz mo E (5 : Int32) ((mx E ((ms E)).toNatClampNeg) + (f_X5_immediate sz mo E))).2) (by unfold f_X5_read; rw [if_neg c_1, if_pos c_2, if_pos c_3, if_pos c_4, if_neg c_5]; try rfl) X hP hD hS hAe hr hlk dX5_read_174
          ·
            refine lv_iload_n hx hb dX5_read_86 rfl (lv_at hl 2 rfl) ?_
            refine go_i (rn_S X (c_X5_isDevice l D _ _ ((mx E ((ms E)).toNatClampNeg) + (f_X5_immediate sz mo E))) ok_X5_isDevice wd_637 ⟨by decide, by decide⟩ hP hD rfl hl.1 rfl (Nat.le_of_ble_eq_true rfl) dX5_read_87 ⟨Nat.zero_le _, Nat.zero_le _⟩) hP hD hS hA (fun H locs hP hD hS => ?_)
            refine lv_if_eq (tgt := 168) hx hb dX5_read_90 (by decide) (fun c_6 => ?_) (fun c_6 => ?_)
            ·
              refine lv_aload_n hx hb dX5_read_168 rfl (lv_at hl 3 rfl) ?_
              refine lv_iconst (v := (5 : Int32)) hx hb dX5_read_169 (by decide) ?_
              refine lv_iload_n hx hb dX5_read_170 rfl (lv_at hl 2 rfl) ?_
              refine go_i (rn_V (ci := 5) (q0 := 0) X (c_X5_trap l D q ca sz mo hk E (5 : Int32) ((mx E ((ms E)).toNatClampNeg) + (f_X5_immediate sz mo E))) ok_X5_trap wd_592 ⟨by decide, by decide⟩ hP hD rfl rfl rfl hl.1 rfl (Nat.le_of_ble_eq_true rfl) dX5_read_171 ⟨Nat.zero_le _, Nat.zero_le _⟩) hP hD hS hA (fun H locs hP hD hS => ?_)
              exact rmu_i (v := (f_X5_trap sz mo E (5 : Int32) ((mx E ((ms E)).toNatClampNeg) + (f_X5_immediate sz mo E))).1) (F := (f_X5_read sz mo E)) (E1 := (f_X5_trap sz mo E (5 : Int32) ((mx E ((ms E)).toNatClampNeg) + (f_X5_immediate sz mo E))).2) (by unfold f_X5_read; rw [if_neg c_1, if_pos c_2, if_pos c_3, if_pos c_4, if_pos c_5, if_pos c_6]; try rfl) X hP hD hS hAe hr hlk dX5_read_174
            ·
              refine lv_iload_n hx hb dX5_read_93 rfl (lv_at hl 2 rfl) ?_
              refine lv_ldc (v := (33603576 : Int32)) hx hb X.1.2.2.2.1 (X.1.2.2.2.2 _ wd_643) dX5_read_94 ?_
              refine lv_icmp_ne (tgt := 107) hx hb dX5_read_96 (by decide) (fun c_7 => ?_) (fun c_7 => ?_)
              ·
                refine lv_iload_n hx hb dX5_read_107 rfl (lv_at hl 2 rfl) ?_
                refine lv_ldc (v := (33603580 : Int32)) hx hb X.1.2.2.2.1 (X.1.2.2.2.2 _ wd_644) dX5_read_108 ?_
                refine lv_icmp_ne (tgt := 124) hx hb dX5_read_110 (by decide) (fun c_8 => ?_) (fun c_8 => ?_)
                ·
                  refine lv_iload_n hx hb dX5_read_124 rfl (lv_at hl 2 rfl) ?_
                  refine lv_ldc (v := (33570816 : Int32)) hx hb X.1.2.2.2.1 (X.1.2.2.2.2 _ wd_645) dX5_read_125 ?_
                  refine lv_icmp_ne (tgt := 138) hx hb dX5_read_127 (by decide) (fun c_9 => ?_) (fun c_9 => ?_)
                  ·
                    refine lv_iload_n hx hb dX5_read_138 rfl (lv_at hl 2 rfl) ?_
                    refine lv_ldc (v := (33570820 : Int32)) hx hb X.1.2.2.2.1 (X.1.2.2.2.2 _ wd_646) dX5_read_139 ?_
                    refine lv_icmp_ne (tgt := 155) hx hb dX5_read_141 (by decide) (fun c_10 => ?_) (fun c_10 => ?_)
                    ·
                      refine lv_aload_n hx hb dX5_read_155 rfl (lv_at hl 3 rfl) ?_
                      refine gf_X5_24 X hP dX5_read_156 ?_
                      refine lv_aload_n hx hb dX5_read_159 rfl (lv_at hl 3 rfl) ?_
                      refine gf_X5_67 X hP dX5_read_160 ?_
                      refine lv_isub hx hb dX5_read_163 ?_
                      refine lv_istore_n (lv' := [(3, .int (mo - (msentMany E))), (2, .int ((1 : Int32) <<< (((mf E) &&& (3 : Int32)) &&& 31))), (1, .int ((mx E ((ms E)).toNatClampNeg) + (f_X5_immediate sz mo E))), (0, .ref (q 0))]) hx hb dX5_read_164 rfl hl (by decide) rfl (fun ls hl => ?_)
                      refine lv_goto (tgt := 175) hx hb dX5_read_165 (by decide) ?_
                      refine lv_aload_n hx hb dX5_read_175 rfl (lv_at hl 3 rfl) ?_
                      refine gf_X5_127 X hP dX5_read_176 ?_
                      refine lv_if_ne (tgt := 192) hx hb dX5_read_179 (by decide) (fun c_11 => ?_) (fun c_11 => ?_)
                      ·
                        refine lv_aload_n hx hb dX5_read_192 rfl (lv_at hl 3 rfl) ?_
                        refine gf_X5_127 X hP dX5_read_193 ?_
                        refine lv_iconst (v := (1 : Int32)) hx hb dX5_read_196 (by decide) ?_
                        refine lv_icmp_ne (tgt := 210) hx hb dX5_read_197 (by decide) (fun c_12 => ?_) (fun c_12 => ?_)
                        ·
                          refine lv_iload_n hx hb dX5_read_210 rfl (lv_at hl 0 rfl) ?_
                          refine lv_istore_n (lv' := [(3, .int (mo - (msentMany E))), (2, .int ((1 : Int32) <<< (((mf E) &&& (3 : Int32)) &&& 31))), (1, .int ((mx E ((ms E)).toNatClampNeg) + (f_X5_immediate sz mo E))), (0, .ref (q 0))]) hx hb dX5_read_211 rfl hl (by decide) rfl (fun ls hl => ?_)
                          refine lv_aload_n hx hb dX5_read_212 rfl (lv_at hl 3 rfl) ?_
                          refine lv_iload_n hx hb dX5_read_213 rfl (lv_at hl 0 rfl) ?_
                          refine go_i (rn_V (ci := 5) (q0 := 0) X (c_X5_become l D q ca sz mo hk E (mo - (msentMany E)) hd.1) ok_X5_become wd_608 ⟨by decide, by decide⟩ hP hD rfl rfl rfl hl.1 rfl (Nat.le_of_ble_eq_true rfl) dX5_read_214 ⟨Nat.zero_le _, Nat.zero_le _⟩) hP hD hS hA (fun H locs hP hD hS => ?_)
                          exact rmu_i (v := (f_X5_become sz mo E (mo - (msentMany E))).1) (F := (f_X5_read sz mo E)) (E1 := (f_X5_become sz mo E (mo - (msentMany E))).2) (by unfold f_X5_read; rw [if_neg c_1, if_pos c_2, if_pos c_3, if_pos c_4, if_pos c_5, if_neg c_6, if_neg c_7, if_neg c_8, if_neg c_9, if_neg c_10, if_neg c_11, if_neg c_12]; try rfl) X hP hD hS hAe hr hlk dX5_read_217
                        ·
                          refine lv_iload_n hx hb dX5_read_200 rfl (lv_at hl 0 rfl) ?_
                          refine lv_bipush (v := (16 : Int32)) hx hb dX5_read_201 (by decide) ?_
                          refine lv_ishl hx hb dX5_read_203 ?_
                          refine lv_bipush (v := (16 : Int32)) hx hb dX5_read_204 (by decide) ?_
                          refine lv_ishr hx hb dX5_read_206 ?_
                          refine lv_goto (tgt := 211) hx hb dX5_read_207 (by decide) ?_
                          refine lv_istore_n (lv' := [(3, .int (((mo - (msentMany E)) <<< ((16 : Int32) &&& 31)) >>> ((16 : Int32) &&& 31))), (2, .int ((1 : Int32) <<< (((mf E) &&& (3 : Int32)) &&& 31))), (1, .int ((mx E ((ms E)).toNatClampNeg) + (f_X5_immediate sz mo E))), (0, .ref (q 0))]) hx hb dX5_read_211 rfl hl (by decide) rfl (fun ls hl => ?_)
                          refine lv_aload_n hx hb dX5_read_212 rfl (lv_at hl 3 rfl) ?_
                          refine lv_iload_n hx hb dX5_read_213 rfl (lv_at hl 0 rfl) ?_
                          refine go_i (rn_V (ci := 5) (q0 := 0) X (c_X5_become l D q ca sz mo hk E (((mo - (msentMany E)) <<< ((16 : Int32) &&& 31)) >>> ((16 : Int32) &&& 31)) hd.1) ok_X5_become wd_608 ⟨by decide, by decide⟩ hP hD rfl rfl rfl hl.1 rfl (Nat.le_of_ble_eq_true rfl) dX5_read_214 ⟨Nat.zero_le _, Nat.zero_le _⟩) hP hD hS hA (fun H locs hP hD hS => ?_)
                          exact rmu_i (v := (f_X5_become sz mo E (((mo - (msentMany E)) <<< ((16 : Int32) &&& 31)) >>> ((16 : Int32) &&& 31))).1) (F := (f_X5_read sz mo E)) (E1 := (f_X5_become sz mo E (((mo - (msentMany E)) <<< ((16 : Int32) &&& 31)) >>> ((16 : Int32) &&& 31))).2) (by unfold f_X5_read; rw [if_neg c_1, if_pos c_2, if_pos c_3, if_pos c_4, if_pos c_5, if_neg c_6, if_neg c_7, if_neg c_8, if_neg c_9, if_neg c_10, if_neg c_11, if_pos c_12]; try rfl) X hP hD hS hAe hr hlk dX5_read_217
                      ·
                        refine lv_iload_n hx hb dX5_read_182 rfl (lv_at hl 0 rfl) ?_
                        refine lv_bipush (v := (24 : Int32)) hx hb dX5_read_183 (by decide) ?_
                        refine lv_ishl hx hb dX5_read_185 ?_
                        refine lv_bipush (v := (24 : Int32)) hx hb dX5_read_186 (by decide) ?_
                        refine lv_ishr hx hb dX5_read_188 ?_
                        refine lv_goto (tgt := 211) hx hb dX5_read_189 (by decide) ?_
                        refine lv_istore_n (lv' := [(3, .int (((mo - (msentMany E)) <<< ((24 : Int32) &&& 31)) >>> ((24 : Int32) &&& 31))), (2, .int ((1 : Int32) <<< (((mf E) &&& (3 : Int32)) &&& 31))), (1, .int ((mx E ((ms E)).toNatClampNeg) + (f_X5_immediate sz mo E))), (0, .ref (q 0))]) hx hb dX5_read_211 rfl hl (by decide) rfl (fun ls hl => ?_)
                        refine lv_aload_n hx hb dX5_read_212 rfl (lv_at hl 3 rfl) ?_
                        refine lv_iload_n hx hb dX5_read_213 rfl (lv_at hl 0 rfl) ?_
                        refine go_i (rn_V (ci := 5) (q0 := 0) X (c_X5_become l D q ca sz mo hk E (((mo - (msentMany E)) <<< ((24 : Int32) &&& 31)) >>> ((24 : Int32) &&& 31)) hd.1) ok_X5_become wd_608 ⟨by decide, by decide⟩ hP hD rfl rfl rfl hl.1 rfl (Nat.le_of_ble_eq_true rfl) dX5_read_214 ⟨Nat.zero_le _, Nat.zero_le _⟩) hP hD hS hA (fun H locs hP hD hS => ?_)
                        exact rmu_i (v := (f_X5_become sz mo E (((mo - (msentMany E)) <<< ((24 : Int32) &&& 31)) >>> ((24 : Int32) &&& 31))).1) (F := (f_X5_read sz mo E)) (E1 := (f_X5_become sz mo E (((mo - (msentMany E)) <<< ((24 : Int32) &&& 31)) >>> ((24 : Int32) &&& 31))).2) (by unfold f_X5_read; rw [if_neg c_1, if_pos c_2, if_pos c_3, if_pos c_4, if_pos c_5, if_neg c_6, if_neg c_7, if_neg c_8, if_neg c_9, if_neg c_10, if_pos c_11]; try rfl) X hP hD hS hAe hr hlk dX5_read_217
                    ·
                      refine lv_aload_n hx hb dX5_read_144 rfl (lv_at hl 3 rfl) ?_
                      refine gf_X5_64 X hP dX5_read_145 ?_
                      refine lv_bipush (v := (32 : Int32)) hx hb dX5_read_148 (by decide) ?_
                      refine lv_lshr (v := (jlshr (mlimit E) (32 : Int32))) hx hb dX5_read_150 rfl ?_
                      refine lv_l2i (v := ((jlshr (mlimit E) (32 : Int32))).toInt32) hx hb dX5_read_151 rfl ?_
                      refine lv_goto (tgt := 164) hx hb dX5_read_152 (by decide) ?_
                      refine lv_istore_n (lv' := [(3, .int ((jlshr (mlimit E) (32 : Int32))).toInt32), (2, .int ((1 : Int32) <<< (((mf E) &&& (3 : Int32)) &&& 31))), (1, .int ((mx E ((ms E)).toNatClampNeg) + (f_X5_immediate sz mo E))), (0, .ref (q 0))]) hx hb dX5_read_164 rfl hl (by decide) rfl (fun ls hl => ?_)
                      refine lv_goto (tgt := 175) hx hb dX5_read_165 (by decide) ?_
                      refine lv_aload_n hx hb dX5_read_175 rfl (lv_at hl 3 rfl) ?_
                      refine gf_X5_127 X hP dX5_read_176 ?_
                      refine lv_if_ne (tgt := 192) hx hb dX5_read_179 (by decide) (fun c_13 => ?_) (fun c_13 => ?_)
                      ·
                        refine lv_aload_n hx hb dX5_read_192 rfl (lv_at hl 3 rfl) ?_
                        refine gf_X5_127 X hP dX5_read_193 ?_
                        refine lv_iconst (v := (1 : Int32)) hx hb dX5_read_196 (by decide) ?_
                        refine lv_icmp_ne (tgt := 210) hx hb dX5_read_197 (by decide) (fun c_14 => ?_) (fun c_14 => ?_)
                        ·
                          refine lv_iload_n hx hb dX5_read_210 rfl (lv_at hl 0 rfl) ?_
                          refine lv_istore_n (lv' := [(3, .int ((jlshr (mlimit E) (32 : Int32))).toInt32), (2, .int ((1 : Int32) <<< (((mf E) &&& (3 : Int32)) &&& 31))), (1, .int ((mx E ((ms E)).toNatClampNeg) + (f_X5_immediate sz mo E))), (0, .ref (q 0))]) hx hb dX5_read_211 rfl hl (by decide) rfl (fun ls hl => ?_)
                          refine lv_aload_n hx hb dX5_read_212 rfl (lv_at hl 3 rfl) ?_
                          refine lv_iload_n hx hb dX5_read_213 rfl (lv_at hl 0 rfl) ?_
                          refine go_i (rn_V (ci := 5) (q0 := 0) X (c_X5_become l D q ca sz mo hk E ((jlshr (mlimit E) (32 : Int32))).toInt32 hd.1) ok_X5_become wd_608 ⟨by decide, by decide⟩ hP hD rfl rfl rfl hl.1 rfl (Nat.le_of_ble_eq_true rfl) dX5_read_214 ⟨Nat.zero_le _, Nat.zero_le _⟩) hP hD hS hA (fun H locs hP hD hS => ?_)
                          exact rmu_i (v := (f_X5_become sz mo E ((jlshr (mlimit E) (32 : Int32))).toInt32).1) (F := (f_X5_read sz mo E)) (E1 := (f_X5_become sz mo E ((jlshr (mlimit E) (32 : Int32))).toInt32).2) (by unfold f_X5_read; rw [if_neg c_1, if_pos c_2, if_pos c_3, if_pos c_4, if_pos c_5, if_neg c_6, if_neg c_7, if_neg c_8, if_neg c_9, if_pos c_10, if_neg c_13, if_neg c_14]; try rfl) X hP hD hS hAe hr hlk dX5_read_217
                        ·
                          refine lv_iload_n hx hb dX5_read_200 rfl (lv_at hl 0 rfl) ?_
                          refine lv_bipush (v := (16 : Int32)) hx hb dX5_read_201 (by decide) ?_
                          refine lv_ishl hx hb dX5_read_203 ?_
                          refine lv_bipush (v := (16 : Int32)) hx hb dX5_read_204 (by decide) ?_
                          refine lv_ishr hx hb dX5_read_206 ?_
                          refine lv_goto (tgt := 211) hx hb dX5_read_207 (by decide) ?_
                          refine lv_istore_n (lv' := [(3, .int ((((jlshr (mlimit E) (32 : Int32))).toInt32 <<< ((16 : Int32) &&& 31)) >>> ((16 : Int32) &&& 31))), (2, .int ((1 : Int32) <<< (((mf E) &&& (3 : Int32)) &&& 31))), (1, .int ((mx E ((ms E)).toNatClampNeg) + (f_X5_immediate sz mo E))), (0, .ref (q 0))]) hx hb dX5_read_211 rfl hl (by decide) rfl (fun ls hl => ?_)
                          refine lv_aload_n hx hb dX5_read_212 rfl (lv_at hl 3 rfl) ?_
                          refine lv_iload_n hx hb dX5_read_213 rfl (lv_at hl 0 rfl) ?_
                          refine go_i (rn_V (ci := 5) (q0 := 0) X (c_X5_become l D q ca sz mo hk E ((((jlshr (mlimit E) (32 : Int32))).toInt32 <<< ((16 : Int32) &&& 31)) >>> ((16 : Int32) &&& 31)) hd.1) ok_X5_become wd_608 ⟨by decide, by decide⟩ hP hD rfl rfl rfl hl.1 rfl (Nat.le_of_ble_eq_true rfl) dX5_read_214 ⟨Nat.zero_le _, Nat.zero_le _⟩) hP hD hS hA (fun H locs hP hD hS => ?_)
                          exact rmu_i (v := (f_X5_become sz mo E ((((jlshr (mlimit E) (32 : Int32))).toInt32 <<< ((16 : Int32) &&& 31)) >>> ((16 : Int32) &&& 31))).1) (F := (f_X5_read sz mo E)) (E1 := (f_X5_become sz mo E ((((jlshr (mlimit E) (32 : Int32))).toInt32 <<< ((16 : Int32) &&& 31)) >>> ((16 : Int32) &&& 31))).2) (by unfold f_X5_read; rw [if_neg c_1, if_pos c_2, if_pos c_3, if_pos c_4, if_pos c_5, if_neg c_6, if_neg c_7, if_neg c_8, if_neg c_9, if_pos c_10, if_neg c_13, if_pos c_14]; try rfl) X hP hD hS hAe hr hlk dX5_read_217
                      ·
                        refine lv_iload_n hx hb dX5_read_182 rfl (lv_at hl 0 rfl) ?_
                        refine lv_bipush (v := (24 : Int32)) hx hb dX5_read_183 (by decide) ?_
                        refine lv_ishl hx hb dX5_read_185 ?_
                        refine lv_bipush (v := (24 : Int32)) hx hb dX5_read_186 (by decide) ?_
                        refine lv_ishr hx hb dX5_read_188 ?_
                        refine lv_goto (tgt := 211) hx hb dX5_read_189 (by decide) ?_
                        refine lv_istore_n (lv' := [(3, .int ((((jlshr (mlimit E) (32 : Int32))).toInt32 <<< ((24 : Int32) &&& 31)) >>> ((24 : Int32) &&& 31))), (2, .int ((1 : Int32) <<< (((mf E) &&& (3 : Int32)) &&& 31))), (1, .int ((mx E ((ms E)).toNatClampNeg) + (f_X5_immediate sz mo E))), (0, .ref (q 0))]) hx hb dX5_read_211 rfl hl (by decide) rfl (fun ls hl => ?_)
                        refine lv_aload_n hx hb dX5_read_212 rfl (lv_at hl 3 rfl) ?_
                        refine lv_iload_n hx hb dX5_read_213 rfl (lv_at hl 0 rfl) ?_
                        refine go_i (rn_V (ci := 5) (q0 := 0) X (c_X5_become l D q ca sz mo hk E ((((jlshr (mlimit E) (32 : Int32))).toInt32 <<< ((24 : Int32) &&& 31)) >>> ((24 : Int32) &&& 31)) hd.1) ok_X5_become wd_608 ⟨by decide, by decide⟩ hP hD rfl rfl rfl hl.1 rfl (Nat.le_of_ble_eq_true rfl) dX5_read_214 ⟨Nat.zero_le _, Nat.zero_le _⟩) hP hD hS hA (fun H locs hP hD hS => ?_)
                        exact rmu_i (v := (f_X5_become sz mo E ((((jlshr (mlimit E) (32 : Int32))).toInt32 <<< ((24 : Int32) &&& 31)) >>> ((24 : Int32) &&& 31))).1) (F := (f_X5_read sz mo E)) (E1 := (f_X5_become sz mo E ((((jlshr (mlimit E) (32 : Int32))).toInt32 <<< ((24 : Int32) &&& 31)) >>> ((24 : Int32) &&& 31))).2) (by unfold f_X5_read; rw [if_neg c_1, if_pos c_2, if_pos c_3, if_pos c_4, if_pos c_5, if_neg c_6, if_neg c_7, if_neg c_8, if_neg c_9, if_pos c_10, if_pos c_13]; try rfl) X hP hD hS hAe hr hlk dX5_read_217
                  ·
                    refine lv_aload_n hx hb dX5_read_130 rfl (lv_at hl 3 rfl) ?_
                    refine gf_X5_64 X hP dX5_read_131 ?_
                    refine lv_l2i (v := ((mlimit E)).toInt32) hx hb dX5_read_134 rfl ?_
                    refine lv_goto (tgt := 164) hx hb dX5_read_135 (by decide) ?_
                    refine lv_istore_n (lv' := [(3, .int ((mlimit E)).toInt32), (2, .int ((1 : Int32) <<< (((mf E) &&& (3 : Int32)) &&& 31))), (1, .int ((mx E ((ms E)).toNatClampNeg) + (f_X5_immediate sz mo E))), (0, .ref (q 0))]) hx hb dX5_read_164 rfl hl (by decide) rfl (fun ls hl => ?_)
                    refine lv_goto (tgt := 175) hx hb dX5_read_165 (by decide) ?_
                    refine lv_aload_n hx hb dX5_read_175 rfl (lv_at hl 3 rfl) ?_
                    refine gf_X5_127 X hP dX5_read_176 ?_
                    refine lv_if_ne (tgt := 192) hx hb dX5_read_179 (by decide) (fun c_15 => ?_) (fun c_15 => ?_)
                    ·
                      refine lv_aload_n hx hb dX5_read_192 rfl (lv_at hl 3 rfl) ?_
                      refine gf_X5_127 X hP dX5_read_193 ?_
                      refine lv_iconst (v := (1 : Int32)) hx hb dX5_read_196 (by decide) ?_
                      refine lv_icmp_ne (tgt := 210) hx hb dX5_read_197 (by decide) (fun c_16 => ?_) (fun c_16 => ?_)
                      ·
                        refine lv_iload_n hx hb dX5_read_210 rfl (lv_at hl 0 rfl) ?_
                        refine lv_istore_n (lv' := [(3, .int ((mlimit E)).toInt32), (2, .int ((1 : Int32) <<< (((mf E) &&& (3 : Int32)) &&& 31))), (1, .int ((mx E ((ms E)).toNatClampNeg) + (f_X5_immediate sz mo E))), (0, .ref (q 0))]) hx hb dX5_read_211 rfl hl (by decide) rfl (fun ls hl => ?_)
                        refine lv_aload_n hx hb dX5_read_212 rfl (lv_at hl 3 rfl) ?_
                        refine lv_iload_n hx hb dX5_read_213 rfl (lv_at hl 0 rfl) ?_
                        refine go_i (rn_V (ci := 5) (q0 := 0) X (c_X5_become l D q ca sz mo hk E ((mlimit E)).toInt32 hd.1) ok_X5_become wd_608 ⟨by decide, by decide⟩ hP hD rfl rfl rfl hl.1 rfl (Nat.le_of_ble_eq_true rfl) dX5_read_214 ⟨Nat.zero_le _, Nat.zero_le _⟩) hP hD hS hA (fun H locs hP hD hS => ?_)
                        exact rmu_i (v := (f_X5_become sz mo E ((mlimit E)).toInt32).1) (F := (f_X5_read sz mo E)) (E1 := (f_X5_become sz mo E ((mlimit E)).toInt32).2) (by unfold f_X5_read; rw [if_neg c_1, if_pos c_2, if_pos c_3, if_pos c_4, if_pos c_5, if_neg c_6, if_neg c_7, if_neg c_8, if_pos c_9, if_neg c_15, if_neg c_16]; try rfl) X hP hD hS hAe hr hlk dX5_read_217
                      ·
                        refine lv_iload_n hx hb dX5_read_200 rfl (lv_at hl 0 rfl) ?_
                        refine lv_bipush (v := (16 : Int32)) hx hb dX5_read_201 (by decide) ?_
                        refine lv_ishl hx hb dX5_read_203 ?_
                        refine lv_bipush (v := (16 : Int32)) hx hb dX5_read_204 (by decide) ?_
                        refine lv_ishr hx hb dX5_read_206 ?_
                        refine lv_goto (tgt := 211) hx hb dX5_read_207 (by decide) ?_
                        refine lv_istore_n (lv' := [(3, .int ((((mlimit E)).toInt32 <<< ((16 : Int32) &&& 31)) >>> ((16 : Int32) &&& 31))), (2, .int ((1 : Int32) <<< (((mf E) &&& (3 : Int32)) &&& 31))), (1, .int ((mx E ((ms E)).toNatClampNeg) + (f_X5_immediate sz mo E))), (0, .ref (q 0))]) hx hb dX5_read_211 rfl hl (by decide) rfl (fun ls hl => ?_)
                        refine lv_aload_n hx hb dX5_read_212 rfl (lv_at hl 3 rfl) ?_
                        refine lv_iload_n hx hb dX5_read_213 rfl (lv_at hl 0 rfl) ?_
                        refine go_i (rn_V (ci := 5) (q0 := 0) X (c_X5_become l D q ca sz mo hk E ((((mlimit E)).toInt32 <<< ((16 : Int32) &&& 31)) >>> ((16 : Int32) &&& 31)) hd.1) ok_X5_become wd_608 ⟨by decide, by decide⟩ hP hD rfl rfl rfl hl.1 rfl (Nat.le_of_ble_eq_true rfl) dX5_read_214 ⟨Nat.zero_le _, Nat.zero_le _⟩) hP hD hS hA (fun H locs hP hD hS => ?_)
                        exact rmu_i (v := (f_X5_become sz mo E ((((mlimit E)).toInt32 <<< ((16 : Int32) &&& 31)) >>> ((16 : Int32) &&& 31))).1) (F := (f_X5_read sz mo E)) (E1 := (f_X5_become sz mo E ((((mlimit E)).toInt32 <<< ((16 : Int32) &&& 31)) >>> ((16 : Int32) &&& 31))).2) (by unfold f_X5_read; rw [if_neg c_1, if_pos c_2, if_pos c_3, if_pos c_4, if_pos c_5, if_neg c_6, if_neg c_7, if_neg c_8, if_pos c_9, if_neg c_15, if_pos c_16]; try rfl) X hP hD hS hAe hr hlk dX5_read_217
                    ·
                      refine lv_iload_n hx hb dX5_read_182 rfl (lv_at hl 0 rfl) ?_
                      refine lv_bipush (v := (24 : Int32)) hx hb dX5_read_183 (by decide) ?_
                      refine lv_ishl hx hb dX5_read_185 ?_
                      refine lv_bipush (v := (24 : Int32)) hx hb dX5_read_186 (by decide) ?_
                      refine lv_ishr hx hb dX5_read_188 ?_
                      refine lv_goto (tgt := 211) hx hb dX5_read_189 (by decide) ?_
                      refine lv_istore_n (lv' := [(3, .int ((((mlimit E)).toInt32 <<< ((24 : Int32) &&& 31)) >>> ((24 : Int32) &&& 31))), (2, .int ((1 : Int32) <<< (((mf E) &&& (3 : Int32)) &&& 31))), (1, .int ((mx E ((ms E)).toNatClampNeg) + (f_X5_immediate sz mo E))), (0, .ref (q 0))]) hx hb dX5_read_211 rfl hl (by decide) rfl (fun ls hl => ?_)
                      refine lv_aload_n hx hb dX5_read_212 rfl (lv_at hl 3 rfl) ?_
                      refine lv_iload_n hx hb dX5_read_213 rfl (lv_at hl 0 rfl) ?_
                      refine go_i (rn_V (ci := 5) (q0 := 0) X (c_X5_become l D q ca sz mo hk E ((((mlimit E)).toInt32 <<< ((24 : Int32) &&& 31)) >>> ((24 : Int32) &&& 31)) hd.1) ok_X5_become wd_608 ⟨by decide, by decide⟩ hP hD rfl rfl rfl hl.1 rfl (Nat.le_of_ble_eq_true rfl) dX5_read_214 ⟨Nat.zero_le _, Nat.zero_le _⟩) hP hD hS hA (fun H locs hP hD hS => ?_)
                      exact rmu_i (v := (f_X5_become sz mo E ((((mlimit E)).toInt32 <<< ((24 : Int32) &&& 31)) >>> ((24 : Int32) &&& 31))).1) (F := (f_X5_read sz mo E)) (E1 := (f_X5_become sz mo E ((((mlimit E)).toInt32 <<< ((24 : Int32) &&& 31)) >>> ((24 : Int32) &&& 31))).2) (by unfold f_X5_read; rw [if_neg c_1, if_pos c_2, if_pos c_3, if_pos c_4, if_pos c_5, if_neg c_6, if_neg c_7, if_neg c_8, if_pos c_9, if_pos c_15]; try rfl) X hP hD hS hAe hr hlk dX5_read_217
                ·
                  refine lv_aload_n hx hb dX5_read_113 rfl (lv_at hl 3 rfl) ?_
                  refine gf_X5_58 X hP dX5_read_114 ?_
                  refine lv_bipush (v := (32 : Int32)) hx hb dX5_read_117 (by decide) ?_
                  refine lv_lshr (v := (jlshr (mtime E) (32 : Int32))) hx hb dX5_read_119 rfl ?_
                  refine lv_l2i (v := ((jlshr (mtime E) (32 : Int32))).toInt32) hx hb dX5_read_120 rfl ?_
                  refine lv_goto (tgt := 164) hx hb dX5_read_121 (by decide) ?_
                  refine lv_istore_n (lv' := [(3, .int ((jlshr (mtime E) (32 : Int32))).toInt32), (2, .int ((1 : Int32) <<< (((mf E) &&& (3 : Int32)) &&& 31))), (1, .int ((mx E ((ms E)).toNatClampNeg) + (f_X5_immediate sz mo E))), (0, .ref (q 0))]) hx hb dX5_read_164 rfl hl (by decide) rfl (fun ls hl => ?_)
                  refine lv_goto (tgt := 175) hx hb dX5_read_165 (by decide) ?_
                  refine lv_aload_n hx hb dX5_read_175 rfl (lv_at hl 3 rfl) ?_
                  refine gf_X5_127 X hP dX5_read_176 ?_
                  refine lv_if_ne (tgt := 192) hx hb dX5_read_179 (by decide) (fun c_17 => ?_) (fun c_17 => ?_)
                  ·
                    refine lv_aload_n hx hb dX5_read_192 rfl (lv_at hl 3 rfl) ?_
                    refine gf_X5_127 X hP dX5_read_193 ?_
                    refine lv_iconst (v := (1 : Int32)) hx hb dX5_read_196 (by decide) ?_
                    refine lv_icmp_ne (tgt := 210) hx hb dX5_read_197 (by decide) (fun c_18 => ?_) (fun c_18 => ?_)
                    ·
                      refine lv_iload_n hx hb dX5_read_210 rfl (lv_at hl 0 rfl) ?_
                      refine lv_istore_n (lv' := [(3, .int ((jlshr (mtime E) (32 : Int32))).toInt32), (2, .int ((1 : Int32) <<< (((mf E) &&& (3 : Int32)) &&& 31))), (1, .int ((mx E ((ms E)).toNatClampNeg) + (f_X5_immediate sz mo E))), (0, .ref (q 0))]) hx hb dX5_read_211 rfl hl (by decide) rfl (fun ls hl => ?_)
                      refine lv_aload_n hx hb dX5_read_212 rfl (lv_at hl 3 rfl) ?_
                      refine lv_iload_n hx hb dX5_read_213 rfl (lv_at hl 0 rfl) ?_
                      refine go_i (rn_V (ci := 5) (q0 := 0) X (c_X5_become l D q ca sz mo hk E ((jlshr (mtime E) (32 : Int32))).toInt32 hd.1) ok_X5_become wd_608 ⟨by decide, by decide⟩ hP hD rfl rfl rfl hl.1 rfl (Nat.le_of_ble_eq_true rfl) dX5_read_214 ⟨Nat.zero_le _, Nat.zero_le _⟩) hP hD hS hA (fun H locs hP hD hS => ?_)
                      exact rmu_i (v := (f_X5_become sz mo E ((jlshr (mtime E) (32 : Int32))).toInt32).1) (F := (f_X5_read sz mo E)) (E1 := (f_X5_become sz mo E ((jlshr (mtime E) (32 : Int32))).toInt32).2) (by unfold f_X5_read; rw [if_neg c_1, if_pos c_2, if_pos c_3, if_pos c_4, if_pos c_5, if_neg c_6, if_neg c_7, if_pos c_8, if_neg c_17, if_neg c_18]; try rfl) X hP hD hS hAe hr hlk dX5_read_217
                    ·
                      refine lv_iload_n hx hb dX5_read_200 rfl (lv_at hl 0 rfl) ?_
                      refine lv_bipush (v := (16 : Int32)) hx hb dX5_read_201 (by decide) ?_
                      refine lv_ishl hx hb dX5_read_203 ?_
                      refine lv_bipush (v := (16 : Int32)) hx hb dX5_read_204 (by decide) ?_
                      refine lv_ishr hx hb dX5_read_206 ?_
                      refine lv_goto (tgt := 211) hx hb dX5_read_207 (by decide) ?_
                      refine lv_istore_n (lv' := [(3, .int ((((jlshr (mtime E) (32 : Int32))).toInt32 <<< ((16 : Int32) &&& 31)) >>> ((16 : Int32) &&& 31))), (2, .int ((1 : Int32) <<< (((mf E) &&& (3 : Int32)) &&& 31))), (1, .int ((mx E ((ms E)).toNatClampNeg) + (f_X5_immediate sz mo E))), (0, .ref (q 0))]) hx hb dX5_read_211 rfl hl (by decide) rfl (fun ls hl => ?_)
                      refine lv_aload_n hx hb dX5_read_212 rfl (lv_at hl 3 rfl) ?_
                      refine lv_iload_n hx hb dX5_read_213 rfl (lv_at hl 0 rfl) ?_
                      refine go_i (rn_V (ci := 5) (q0 := 0) X (c_X5_become l D q ca sz mo hk E ((((jlshr (mtime E) (32 : Int32))).toInt32 <<< ((16 : Int32) &&& 31)) >>> ((16 : Int32) &&& 31)) hd.1) ok_X5_become wd_608 ⟨by decide, by decide⟩ hP hD rfl rfl rfl hl.1 rfl (Nat.le_of_ble_eq_true rfl) dX5_read_214 ⟨Nat.zero_le _, Nat.zero_le _⟩) hP hD hS hA (fun H locs hP hD hS => ?_)
                      exact rmu_i (v := (f_X5_become sz mo E ((((jlshr (mtime E) (32 : Int32))).toInt32 <<< ((16 : Int32) &&& 31)) >>> ((16 : Int32) &&& 31))).1) (F := (f_X5_read sz mo E)) (E1 := (f_X5_become sz mo E ((((jlshr (mtime E) (32 : Int32))).toInt32 <<< ((16 : Int32) &&& 31)) >>> ((16 : Int32) &&& 31))).2) (by unfold f_X5_read; rw [if_neg c_1, if_pos c_2, if_pos c_3, if_pos c_4, if_pos c_5, if_neg c_6, if_neg c_7, if_pos c_8, if_neg c_17, if_pos c_18]; try rfl) X hP hD hS hAe hr hlk dX5_read_217
                  ·
                    refine lv_iload_n hx hb dX5_read_182 rfl (lv_at hl 0 rfl) ?_
                    refine lv_bipush (v := (24 : Int32)) hx hb dX5_read_183 (by decide) ?_
                    refine lv_ishl hx hb dX5_read_185 ?_
                    refine lv_bipush (v := (24 : Int32)) hx hb dX5_read_186 (by decide) ?_
                    refine lv_ishr hx hb dX5_read_188 ?_
                    refine lv_goto (tgt := 211) hx hb dX5_read_189 (by decide) ?_
                    refine lv_istore_n (lv' := [(3, .int ((((jlshr (mtime E) (32 : Int32))).toInt32 <<< ((24 : Int32) &&& 31)) >>> ((24 : Int32) &&& 31))), (2, .int ((1 : Int32) <<< (((mf E) &&& (3 : Int32)) &&& 31))), (1, .int ((mx E ((ms E)).toNatClampNeg) + (f_X5_immediate sz mo E))), (0, .ref (q 0))]) hx hb dX5_read_211 rfl hl (by decide) rfl (fun ls hl => ?_)
                    refine lv_aload_n hx hb dX5_read_212 rfl (lv_at hl 3 rfl) ?_
                    refine lv_iload_n hx hb dX5_read_213 rfl (lv_at hl 0 rfl) ?_
                    refine go_i (rn_V (ci := 5) (q0 := 0) X (c_X5_become l D q ca sz mo hk E ((((jlshr (mtime E) (32 : Int32))).toInt32 <<< ((24 : Int32) &&& 31)) >>> ((24 : Int32) &&& 31)) hd.1) ok_X5_become wd_608 ⟨by decide, by decide⟩ hP hD rfl rfl rfl hl.1 rfl (Nat.le_of_ble_eq_true rfl) dX5_read_214 ⟨Nat.zero_le _, Nat.zero_le _⟩) hP hD hS hA (fun H locs hP hD hS => ?_)
                    exact rmu_i (v := (f_X5_become sz mo E ((((jlshr (mtime E) (32 : Int32))).toInt32 <<< ((24 : Int32) &&& 31)) >>> ((24 : Int32) &&& 31))).1) (F := (f_X5_read sz mo E)) (E1 := (f_X5_become sz mo E ((((jlshr (mtime E) (32 : Int32))).toInt32 <<< ((24 : Int32) &&& 31)) >>> ((24 : Int32) &&& 31))).2) (by unfold f_X5_read; rw [if_neg c_1, if_pos c_2, if_pos c_3, if_pos c_4, if_pos c_5, if_neg c_6, if_neg c_7, if_pos c_8, if_pos c_17]; try rfl) X hP hD hS hAe hr hlk dX5_read_217
              ·
                refine lv_aload_n hx hb dX5_read_99 rfl (lv_at hl 3 rfl) ?_
                refine gf_X5_58 X hP dX5_read_100 ?_
                refine lv_l2i (v := ((mtime E)).toInt32) hx hb dX5_read_103 rfl ?_
                refine lv_goto (tgt := 164) hx hb dX5_read_104 (by decide) ?_
                refine lv_istore_n (lv' := [(3, .int ((mtime E)).toInt32), (2, .int ((1 : Int32) <<< (((mf E) &&& (3 : Int32)) &&& 31))), (1, .int ((mx E ((ms E)).toNatClampNeg) + (f_X5_immediate sz mo E))), (0, .ref (q 0))]) hx hb dX5_read_164 rfl hl (by decide) rfl (fun ls hl => ?_)
                refine lv_goto (tgt := 175) hx hb dX5_read_165 (by decide) ?_
                refine lv_aload_n hx hb dX5_read_175 rfl (lv_at hl 3 rfl) ?_
                refine gf_X5_127 X hP dX5_read_176 ?_
                refine lv_if_ne (tgt := 192) hx hb dX5_read_179 (by decide) (fun c_19 => ?_) (fun c_19 => ?_)
                ·
                  refine lv_aload_n hx hb dX5_read_192 rfl (lv_at hl 3 rfl) ?_
                  refine gf_X5_127 X hP dX5_read_193 ?_
                  refine lv_iconst (v := (1 : Int32)) hx hb dX5_read_196 (by decide) ?_
                  refine lv_icmp_ne (tgt := 210) hx hb dX5_read_197 (by decide) (fun c_20 => ?_) (fun c_20 => ?_)
                  ·
                    refine lv_iload_n hx hb dX5_read_210 rfl (lv_at hl 0 rfl) ?_
                    refine lv_istore_n (lv' := [(3, .int ((mtime E)).toInt32), (2, .int ((1 : Int32) <<< (((mf E) &&& (3 : Int32)) &&& 31))), (1, .int ((mx E ((ms E)).toNatClampNeg) + (f_X5_immediate sz mo E))), (0, .ref (q 0))]) hx hb dX5_read_211 rfl hl (by decide) rfl (fun ls hl => ?_)
                    refine lv_aload_n hx hb dX5_read_212 rfl (lv_at hl 3 rfl) ?_
                    refine lv_iload_n hx hb dX5_read_213 rfl (lv_at hl 0 rfl) ?_
                    refine go_i (rn_V (ci := 5) (q0 := 0) X (c_X5_become l D q ca sz mo hk E ((mtime E)).toInt32 hd.1) ok_X5_become wd_608 ⟨by decide, by decide⟩ hP hD rfl rfl rfl hl.1 rfl (Nat.le_of_ble_eq_true rfl) dX5_read_214 ⟨Nat.zero_le _, Nat.zero_le _⟩) hP hD hS hA (fun H locs hP hD hS => ?_)
                    exact rmu_i (v := (f_X5_become sz mo E ((mtime E)).toInt32).1) (F := (f_X5_read sz mo E)) (E1 := (f_X5_become sz mo E ((mtime E)).toInt32).2) (by unfold f_X5_read; rw [if_neg c_1, if_pos c_2, if_pos c_3, if_pos c_4, if_pos c_5, if_neg c_6, if_pos c_7, if_neg c_19, if_neg c_20]; try rfl) X hP hD hS hAe hr hlk dX5_read_217
                  ·
                    refine lv_iload_n hx hb dX5_read_200 rfl (lv_at hl 0 rfl) ?_
                    refine lv_bipush (v := (16 : Int32)) hx hb dX5_read_201 (by decide) ?_
                    refine lv_ishl hx hb dX5_read_203 ?_
                    refine lv_bipush (v := (16 : Int32)) hx hb dX5_read_204 (by decide) ?_
                    refine lv_ishr hx hb dX5_read_206 ?_
                    refine lv_goto (tgt := 211) hx hb dX5_read_207 (by decide) ?_
                    refine lv_istore_n (lv' := [(3, .int ((((mtime E)).toInt32 <<< ((16 : Int32) &&& 31)) >>> ((16 : Int32) &&& 31))), (2, .int ((1 : Int32) <<< (((mf E) &&& (3 : Int32)) &&& 31))), (1, .int ((mx E ((ms E)).toNatClampNeg) + (f_X5_immediate sz mo E))), (0, .ref (q 0))]) hx hb dX5_read_211 rfl hl (by decide) rfl (fun ls hl => ?_)
                    refine lv_aload_n hx hb dX5_read_212 rfl (lv_at hl 3 rfl) ?_
                    refine lv_iload_n hx hb dX5_read_213 rfl (lv_at hl 0 rfl) ?_
                    refine go_i (rn_V (ci := 5) (q0 := 0) X (c_X5_become l D q ca sz mo hk E ((((mtime E)).toInt32 <<< ((16 : Int32) &&& 31)) >>> ((16 : Int32) &&& 31)) hd.1) ok_X5_become wd_608 ⟨by decide, by decide⟩ hP hD rfl rfl rfl hl.1 rfl (Nat.le_of_ble_eq_true rfl) dX5_read_214 ⟨Nat.zero_le _, Nat.zero_le _⟩) hP hD hS hA (fun H locs hP hD hS => ?_)
                    exact rmu_i (v := (f_X5_become sz mo E ((((mtime E)).toInt32 <<< ((16 : Int32) &&& 31)) >>> ((16 : Int32) &&& 31))).1) (F := (f_X5_read sz mo E)) (E1 := (f_X5_become sz mo E ((((mtime E)).toInt32 <<< ((16 : Int32) &&& 31)) >>> ((16 : Int32) &&& 31))).2) (by unfold f_X5_read; rw [if_neg c_1, if_pos c_2, if_pos c_3, if_pos c_4, if_pos c_5, if_neg c_6, if_pos c_7, if_neg c_19, if_pos c_20]; try rfl) X hP hD hS hAe hr hlk dX5_read_217
                ·
                  refine lv_iload_n hx hb dX5_read_182 rfl (lv_at hl 0 rfl) ?_
                  refine lv_bipush (v := (24 : Int32)) hx hb dX5_read_183 (by decide) ?_
                  refine lv_ishl hx hb dX5_read_185 ?_
                  refine lv_bipush (v := (24 : Int32)) hx hb dX5_read_186 (by decide) ?_
                  refine lv_ishr hx hb dX5_read_188 ?_
                  refine lv_goto (tgt := 211) hx hb dX5_read_189 (by decide) ?_
                  refine lv_istore_n (lv' := [(3, .int ((((mtime E)).toInt32 <<< ((24 : Int32) &&& 31)) >>> ((24 : Int32) &&& 31))), (2, .int ((1 : Int32) <<< (((mf E) &&& (3 : Int32)) &&& 31))), (1, .int ((mx E ((ms E)).toNatClampNeg) + (f_X5_immediate sz mo E))), (0, .ref (q 0))]) hx hb dX5_read_211 rfl hl (by decide) rfl (fun ls hl => ?_)
                  refine lv_aload_n hx hb dX5_read_212 rfl (lv_at hl 3 rfl) ?_
                  refine lv_iload_n hx hb dX5_read_213 rfl (lv_at hl 0 rfl) ?_
                  refine go_i (rn_V (ci := 5) (q0 := 0) X (c_X5_become l D q ca sz mo hk E ((((mtime E)).toInt32 <<< ((24 : Int32) &&& 31)) >>> ((24 : Int32) &&& 31)) hd.1) ok_X5_become wd_608 ⟨by decide, by decide⟩ hP hD rfl rfl rfl hl.1 rfl (Nat.le_of_ble_eq_true rfl) dX5_read_214 ⟨Nat.zero_le _, Nat.zero_le _⟩) hP hD hS hA (fun H locs hP hD hS => ?_)
                  exact rmu_i (v := (f_X5_become sz mo E ((((mtime E)).toInt32 <<< ((24 : Int32) &&& 31)) >>> ((24 : Int32) &&& 31))).1) (F := (f_X5_read sz mo E)) (E1 := (f_X5_become sz mo E ((((mtime E)).toInt32 <<< ((24 : Int32) &&& 31)) >>> ((24 : Int32) &&& 31))).2) (by unfold f_X5_read; rw [if_neg c_1, if_pos c_2, if_pos c_3, if_pos c_4, if_pos c_5, if_neg c_6, if_pos c_7, if_pos c_19]; try rfl) X hP hD hS hAe hr hlk dX5_read_217
        ·
          refine lv_aload_n hx hb dX5_read_71 rfl (lv_at hl 3 rfl) ?_
          refine lv_iload_n hx hb dX5_read_72 rfl (lv_at hl 2 rfl) ?_
          refine lv_iload_n hx hb dX5_read_73 rfl (lv_at hl 1 rfl) ?_
          refine go_i (rn_V (ci := 5) (q0 := 0) X (c_X5_get l D q ca sz mo hk E ((mx E ((ms E)).toNatClampNeg) + (f_X5_immediate sz mo E)) ((1 : Int32) <<< (((mf E) &&& (3 : Int32)) &&& 31)) c_4 (rd_b hd.2.2.2 c_1 c_2)) ok_X5_get wd_600 ⟨by decide, by decide⟩ hP hD rfl rfl rfl hl.1 rfl (Nat.le_of_ble_eq_true rfl) dX5_read_74 ⟨Nat.zero_le _, Nat.zero_le _⟩) hP hD hS hA (fun H locs hP hD hS => ?_)
          refine lv_istore_n (lv' := [(3, .int (f_X5_get sz mo E ((mx E ((ms E)).toNatClampNeg) + (f_X5_immediate sz mo E)) ((1 : Int32) <<< (((mf E) &&& (3 : Int32)) &&& 31)))), (2, .int ((1 : Int32) <<< (((mf E) &&& (3 : Int32)) &&& 31))), (1, .int ((mx E ((ms E)).toNatClampNeg) + (f_X5_immediate sz mo E))), (0, .ref (q 0))]) hx hb dX5_read_77 rfl hl (by decide) rfl (fun ls hl => ?_)
          refine lv_goto (tgt := 175) hx hb dX5_read_78 (by decide) ?_
          refine lv_aload_n hx hb dX5_read_175 rfl (lv_at hl 3 rfl) ?_
          refine gf_X5_127 X hP dX5_read_176 ?_
          refine lv_if_ne (tgt := 192) hx hb dX5_read_179 (by decide) (fun c_21 => ?_) (fun c_21 => ?_)
          ·
            refine lv_aload_n hx hb dX5_read_192 rfl (lv_at hl 3 rfl) ?_
            refine gf_X5_127 X hP dX5_read_193 ?_
            refine lv_iconst (v := (1 : Int32)) hx hb dX5_read_196 (by decide) ?_
            refine lv_icmp_ne (tgt := 210) hx hb dX5_read_197 (by decide) (fun c_22 => ?_) (fun c_22 => ?_)
            ·
              refine lv_iload_n hx hb dX5_read_210 rfl (lv_at hl 0 rfl) ?_
              refine lv_istore_n (lv' := [(3, .int (f_X5_get sz mo E ((mx E ((ms E)).toNatClampNeg) + (f_X5_immediate sz mo E)) ((1 : Int32) <<< (((mf E) &&& (3 : Int32)) &&& 31)))), (2, .int ((1 : Int32) <<< (((mf E) &&& (3 : Int32)) &&& 31))), (1, .int ((mx E ((ms E)).toNatClampNeg) + (f_X5_immediate sz mo E))), (0, .ref (q 0))]) hx hb dX5_read_211 rfl hl (by decide) rfl (fun ls hl => ?_)
              refine lv_aload_n hx hb dX5_read_212 rfl (lv_at hl 3 rfl) ?_
              refine lv_iload_n hx hb dX5_read_213 rfl (lv_at hl 0 rfl) ?_
              refine go_i (rn_V (ci := 5) (q0 := 0) X (c_X5_become l D q ca sz mo hk E (f_X5_get sz mo E ((mx E ((ms E)).toNatClampNeg) + (f_X5_immediate sz mo E)) ((1 : Int32) <<< (((mf E) &&& (3 : Int32)) &&& 31))) hd.1) ok_X5_become wd_608 ⟨by decide, by decide⟩ hP hD rfl rfl rfl hl.1 rfl (Nat.le_of_ble_eq_true rfl) dX5_read_214 ⟨Nat.zero_le _, Nat.zero_le _⟩) hP hD hS hA (fun H locs hP hD hS => ?_)
              exact rmu_i (v := (f_X5_become sz mo E (f_X5_get sz mo E ((mx E ((ms E)).toNatClampNeg) + (f_X5_immediate sz mo E)) ((1 : Int32) <<< (((mf E) &&& (3 : Int32)) &&& 31)))).1) (F := (f_X5_read sz mo E)) (E1 := (f_X5_become sz mo E (f_X5_get sz mo E ((mx E ((ms E)).toNatClampNeg) + (f_X5_immediate sz mo E)) ((1 : Int32) <<< (((mf E) &&& (3 : Int32)) &&& 31)))).2) (by unfold f_X5_read; rw [if_neg c_1, if_pos c_2, if_pos c_3, if_neg c_4, if_neg c_21, if_neg c_22]; try rfl) X hP hD hS hAe hr hlk dX5_read_217
            ·
              refine lv_iload_n hx hb dX5_read_200 rfl (lv_at hl 0 rfl) ?_
              refine lv_bipush (v := (16 : Int32)) hx hb dX5_read_201 (by decide) ?_
              refine lv_ishl hx hb dX5_read_203 ?_
              refine lv_bipush (v := (16 : Int32)) hx hb dX5_read_204 (by decide) ?_
              refine lv_ishr hx hb dX5_read_206 ?_
              refine lv_goto (tgt := 211) hx hb dX5_read_207 (by decide) ?_
              refine lv_istore_n (lv' := [(3, .int (((f_X5_get sz mo E ((mx E ((ms E)).toNatClampNeg) + (f_X5_immediate sz mo E)) ((1 : Int32) <<< (((mf E) &&& (3 : Int32)) &&& 31))) <<< ((16 : Int32) &&& 31)) >>> ((16 : Int32) &&& 31))), (2, .int ((1 : Int32) <<< (((mf E) &&& (3 : Int32)) &&& 31))), (1, .int ((mx E ((ms E)).toNatClampNeg) + (f_X5_immediate sz mo E))), (0, .ref (q 0))]) hx hb dX5_read_211 rfl hl (by decide) rfl (fun ls hl => ?_)
              refine lv_aload_n hx hb dX5_read_212 rfl (lv_at hl 3 rfl) ?_
              refine lv_iload_n hx hb dX5_read_213 rfl (lv_at hl 0 rfl) ?_
              refine go_i (rn_V (ci := 5) (q0 := 0) X (c_X5_become l D q ca sz mo hk E (((f_X5_get sz mo E ((mx E ((ms E)).toNatClampNeg) + (f_X5_immediate sz mo E)) ((1 : Int32) <<< (((mf E) &&& (3 : Int32)) &&& 31))) <<< ((16 : Int32) &&& 31)) >>> ((16 : Int32) &&& 31)) hd.1) ok_X5_become wd_608 ⟨by decide, by decide⟩ hP hD rfl rfl rfl hl.1 rfl (Nat.le_of_ble_eq_true rfl) dX5_read_214 ⟨Nat.zero_le _, Nat.zero_le _⟩) hP hD hS hA (fun H locs hP hD hS => ?_)
              exact rmu_i (v := (f_X5_become sz mo E (((f_X5_get sz mo E ((mx E ((ms E)).toNatClampNeg) + (f_X5_immediate sz mo E)) ((1 : Int32) <<< (((mf E) &&& (3 : Int32)) &&& 31))) <<< ((16 : Int32) &&& 31)) >>> ((16 : Int32) &&& 31))).1) (F := (f_X5_read sz mo E)) (E1 := (f_X5_become sz mo E (((f_X5_get sz mo E ((mx E ((ms E)).toNatClampNeg) + (f_X5_immediate sz mo E)) ((1 : Int32) <<< (((mf E) &&& (3 : Int32)) &&& 31))) <<< ((16 : Int32) &&& 31)) >>> ((16 : Int32) &&& 31))).2) (by unfold f_X5_read; rw [if_neg c_1, if_pos c_2, if_pos c_3, if_neg c_4, if_neg c_21, if_pos c_22]; try rfl) X hP hD hS hAe hr hlk dX5_read_217
          ·
            refine lv_iload_n hx hb dX5_read_182 rfl (lv_at hl 0 rfl) ?_
            refine lv_bipush (v := (24 : Int32)) hx hb dX5_read_183 (by decide) ?_
            refine lv_ishl hx hb dX5_read_185 ?_
            refine lv_bipush (v := (24 : Int32)) hx hb dX5_read_186 (by decide) ?_
            refine lv_ishr hx hb dX5_read_188 ?_
            refine lv_goto (tgt := 211) hx hb dX5_read_189 (by decide) ?_
            refine lv_istore_n (lv' := [(3, .int (((f_X5_get sz mo E ((mx E ((ms E)).toNatClampNeg) + (f_X5_immediate sz mo E)) ((1 : Int32) <<< (((mf E) &&& (3 : Int32)) &&& 31))) <<< ((24 : Int32) &&& 31)) >>> ((24 : Int32) &&& 31))), (2, .int ((1 : Int32) <<< (((mf E) &&& (3 : Int32)) &&& 31))), (1, .int ((mx E ((ms E)).toNatClampNeg) + (f_X5_immediate sz mo E))), (0, .ref (q 0))]) hx hb dX5_read_211 rfl hl (by decide) rfl (fun ls hl => ?_)
            refine lv_aload_n hx hb dX5_read_212 rfl (lv_at hl 3 rfl) ?_
            refine lv_iload_n hx hb dX5_read_213 rfl (lv_at hl 0 rfl) ?_
            refine go_i (rn_V (ci := 5) (q0 := 0) X (c_X5_become l D q ca sz mo hk E (((f_X5_get sz mo E ((mx E ((ms E)).toNatClampNeg) + (f_X5_immediate sz mo E)) ((1 : Int32) <<< (((mf E) &&& (3 : Int32)) &&& 31))) <<< ((24 : Int32) &&& 31)) >>> ((24 : Int32) &&& 31)) hd.1) ok_X5_become wd_608 ⟨by decide, by decide⟩ hP hD rfl rfl rfl hl.1 rfl (Nat.le_of_ble_eq_true rfl) dX5_read_214 ⟨Nat.zero_le _, Nat.zero_le _⟩) hP hD hS hA (fun H locs hP hD hS => ?_)
            exact rmu_i (v := (f_X5_become sz mo E (((f_X5_get sz mo E ((mx E ((ms E)).toNatClampNeg) + (f_X5_immediate sz mo E)) ((1 : Int32) <<< (((mf E) &&& (3 : Int32)) &&& 31))) <<< ((24 : Int32) &&& 31)) >>> ((24 : Int32) &&& 31))).1) (F := (f_X5_read sz mo E)) (E1 := (f_X5_become sz mo E (((f_X5_get sz mo E ((mx E ((ms E)).toNatClampNeg) + (f_X5_immediate sz mo E)) ((1 : Int32) <<< (((mf E) &&& (3 : Int32)) &&& 31))) <<< ((24 : Int32) &&& 31)) >>> ((24 : Int32) &&& 31))).2) (by unfold f_X5_read; rw [if_neg c_1, if_pos c_2, if_pos c_3, if_neg c_4, if_pos c_21]; try rfl) X hP hD hS hAe hr hlk dX5_read_217
      ·
        refine lv_aload_n hx hb dX5_read_53 rfl (lv_at hl 2 rfl) ?_
        refine lv_iconst (v := (4 : Int32)) hx hb dX5_read_54 (by decide) ?_
        refine lv_iload_n hx hb dX5_read_55 rfl (lv_at hl 1 rfl) ?_
        refine go_i (rn_V (ci := 5) (q0 := 0) X (c_X5_trap l D q ca sz mo hk E (4 : Int32) ((mx E ((ms E)).toNatClampNeg) + (f_X5_immediate sz mo E))) ok_X5_trap wd_592 ⟨by decide, by decide⟩ hP hD rfl rfl rfl hl.1 rfl (Nat.le_of_ble_eq_true rfl) dX5_read_56 ⟨Nat.zero_le _, Nat.zero_le _⟩) hP hD hS hA (fun H locs hP hD hS => ?_)
        exact rmu_i (v := (f_X5_trap sz mo E (4 : Int32) ((mx E ((ms E)).toNatClampNeg) + (f_X5_immediate sz mo E))).1) (F := (f_X5_read sz mo E)) (E1 := (f_X5_trap sz mo E (4 : Int32) ((mx E ((ms E)).toNatClampNeg) + (f_X5_immediate sz mo E))).2) (by unfold f_X5_read; rw [if_neg c_1, if_pos c_2, if_neg c_3]; try rfl) X hP hD hS hAe hr hlk dX5_read_59
    ·
      refine lv_aload_n hx hb dX5_read_16 rfl (lv_at hl 0 rfl) ?_
      refine go_i (rn_V (ci := 5) (q0 := 0) X (c_X5_illegal l D q ca sz mo hk E ) ok_X5_illegal wd_621 ⟨by decide, by decide⟩ hP hD rfl rfl rfl hl.1 rfl (Nat.le_of_ble_eq_true rfl) dX5_read_17 ⟨Nat.zero_le _, Nat.zero_le _⟩) hP hD hS hA (fun H locs hP hD hS => ?_)
      exact rmu_i (v := (f_X5_illegal sz mo E).1) (F := (f_X5_read sz mo E)) (E1 := (f_X5_illegal sz mo E).2) (by unfold f_X5_read; rw [if_neg c_1, if_neg c_2]; try rfl) X hP hD hS hAe hr hlk dX5_read_20
