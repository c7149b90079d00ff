/-! contracts: X4_reg X3_advance X0_enter X0_hasOwnEntries X0_timerEnabled X4_s X4_a X4_b X4_belowUnsigned X4_compares X4_f X4_trap X4_illegal X4_offsetB X4_retireAt X4_branch X0_set X4_setD X4_retire X4_control -/
set_option maxHeartbeats 4000000 in
set_option maxRecDepth 100000 in
theorem c_X4_reg (l : Launch) (D : va_G) (q : Nat → Nat) (ca : Nat → ClassId) (nW nB : Nat) (hk : KOk nW nB) (E : KS) (a1 : Int32) : Mt l yX4_reg cX4_reg 2 (some .int) 0 D (tysK ca) [.ref (q 0), .int a1] (cwK q ca nW nB E) (QcI D (cwK q ca nW nB E) (cwK q ca nW nB E) (f_X4_reg nW nB E a1)) := by
  refine ent (own := RX4) rfl (by decide) (Nat.le_of_ble_eq_true rfl) ?_
  intro p e s m below meth c A ls X hr hlk hmn hAe hA hP hD hS hl
  have hx := X.1.1
  have hb := X.1.2.1
  have hl : lv_has ls 2 [(0, .ref (q 0)), (1, .int a1)] := hl
  refine lv_aload_n hx hb dX4_reg_0 rfl (lv_at hl 0 rfl) ?_
  refine gf_X4_49 X hP dX4_reg_1 ?_
  refine lv_iload_n hx hb dX4_reg_4 rfl (lv_at hl 1 rfl) ?_
  refine lv_bipush (v := (31 : Int32)) hx hb dX4_reg_5 (by decide) ?_
  refine lv_iand hx hb dX4_reg_7 ?_
  refine kld_7 X hP (pk_andIn _ 5 rfl (by decide)) dX4_reg_8 ?_
  exact rg_i (v := (kx E ((a1 &&& (31 : Int32))).toNatClampNeg)) (F := (f_X4_reg nW nB E a1)) rfl X hP hD hS hAe hr hlk dX4_reg_9
set_option maxHeartbeats 4000000 in
set_option maxRecDepth 100000 in
theorem c_X3_advance (l : Launch) (D : va_G) (q : Nat → Nat) (ca : Nat → ClassId) (nW nB : Nat) (hk : KOk nW nB) (E : KS) : Mt l yX3_advance cX3_advance 1 none 0 D (tysK ca) [.ref (q 3)] (cwK q ca nW nB E) (QcV D (cwK q ca nW nB E) (cwK q ca nW nB (f_X3_advance nW nB E))) := by
  refine ent (own := RX3) rfl (by decide) (Nat.le_of_ble_eq_true rfl) ?_
  intro p e s m below meth c A ls X hr hlk hmn hAe hA hP hD hS hl
  have hx := X.1.1
  have hb := X.1.2.1
  have hl : lv_has ls 1 [(0, .ref (q 3))] := hl
  refine lv_aload_n hx hb dX3_advance_0 rfl (lv_at hl 0 rfl) ?_
  refine lv_dup hx hb dX3_advance_1 rfl ?_
  refine gf_X3_7 X hP dX3_advance_2 ?_
  refine lv_lconst (v := (1 : Int64)) hx hb dX3_advance_5 (by decide) ?_
  refine lv_ladd hx hb dX3_advance_6 ?_
  refine pf_X3_7 X hP hD hS ((ktime E) + (1 : Int64)) dX3_advance_7 (fun H locs hP hD hS => ?_)
  exact rku_v (F := (f_X3_advance nW nB E)) (E1 := (ktime_ E ((ktime E) + (1 : Int64)))) rfl X hP hD hS hAe hr hlk dX3_advance_10
set_option maxHeartbeats 4000000 in
set_option maxRecDepth 100000 in
theorem c_X0_enter (l : Launch) (D : va_G) (q : Nat → Nat) (ca : Nat → ClassId) (nW nB : Nat) (hk : KOk nW nB) (E : KS) (a1 : Int32) (a2 : Int32) (a3 : Int32) : Mt l yX0_enter cX0_enter 4 (some .int) 0 D (tysK ca) [.ref (q 6), .int a1, .int a2, .int a3] (cwK q ca nW nB E) (QcI D (cwK q ca nW nB E) (cwK q ca nW nB (f_X0_enter nW nB E a1 a2 a3).2) (f_X0_enter nW nB E a1 a2 a3).1) := by
  refine ent (own := RX0) rfl (by decide) (Nat.le_of_ble_eq_true rfl) ?_
  intro p e s m below meth c A ls X hr hlk hmn hAe hA hP hD hS hl
  have hx := X.1.1
  have hb := X.1.2.1
  have hl : lv_has ls 4 [(0, .ref (q 6)), (1, .int a1), (2, .int a2), (3, .int a3)] := hl
  refine lv_aload_n hx hb dX0_enter_0 rfl (lv_at hl 0 rfl) ?_
  refine lv_iload_n hx hb dX0_enter_1 rfl (lv_at hl 1 rfl) ?_
  refine pf_X0_26 X hP hD hS a1 dX0_enter_2 (fun H locs hP hD hS => ?_)
  refine lv_aload_n hx hb dX0_enter_5 rfl (lv_at hl 0 rfl) ?_
  refine lv_iload_n hx hb dX0_enter_6 rfl (lv_at hl 2 rfl) ?_
  refine pf_X0_29 X hP hD hS a2 dX0_enter_7 (fun H locs hP hD hS => ?_)
  refine lv_aload_n hx hb dX0_enter_10 rfl (lv_at hl 0 rfl) ?_
  refine lv_iload_n hx hb dX0_enter_11 rfl (lv_at hl 3 rfl) ?_
  refine pf_X0_32 X hP hD hS a3 dX0_enter_12 (fun H locs hP hD hS => ?_)
  refine lv_aload_n hx hb dX0_enter_15 rfl (lv_at hl 0 rfl) ?_
  refine lv_aload_n hx hb dX0_enter_16 rfl (lv_at hl 0 rfl) ?_
  refine gf_X0_7 X hP dX0_enter_17 ?_
  refine tw_eqi (y := (b2i (kon E))) (congrArg b2i (Eq.trans (gs_kon_value _ _) (Eq.trans (gs_kon_cause _ _) (gs_kon_back _ _)))) ?_
  refine pf_X0_13 X hP hD hS (kon E) dX0_enter_20 (fun H locs hP hD hS => ?_)
  refine lv_aload_n hx hb dX0_enter_23 rfl (lv_at hl 0 rfl) ?_
  refine lv_iconst (v := (0 : Int32)) hx hb dX0_enter_24 (by decide) ?_
  refine pf_X0_7 X hP hD hS false dX0_enter_25 (fun H locs hP hD hS => ?_)
  refine lv_aload_n hx hb dX0_enter_28 rfl (lv_at hl 0 rfl) ?_
  refine gf_X0_20 X hP dX0_enter_29 ?_
  refine tw_eqi (y := (kvector E)) (Eq.trans (gs_kvector_on _ _) (Eq.trans (gs_kvector_was _ _) (Eq.trans (gs_kvector_value _ _) (Eq.trans (gs_kvector_cause _ _) (gs_kvector_back _ _))))) ?_
  refine lv_bipush (v := (-4 : Int32)) hx hb dX0_enter_32 (by decide) ?_
  refine lv_iand hx hb dX0_enter_34 ?_
  exact rku_i (v := ((kvector E) &&& (-4 : Int32))) (F := (f_X0_enter nW nB E a1 a2 a3)) (E1 := (kon_ (kwas_ (kvalue_ (kcause_ (kback_ E a1) a2) a3) (kon E)) false)) rfl X hP hD hS hAe hr hlk dX0_enter_35
set_option maxHeartbeats 4000000 in
set_option maxRecDepth 100000 in
theorem c_X0_hasOwnEntries (l : Launch) (D : va_G) (q : Nat → Nat) (ca : Nat → ClassId) (nW nB : Nat) (hk : KOk nW nB) (E : KS) : Mt l yX0_hasOwnEntries cX0_hasOwnEntries 1 (some .boolean) 0 D (tysK ca) [.ref (q 6)] (cwK q ca nW nB E) (QcI D (cwK q ca nW nB E) (cwK q ca nW nB E) (b2i (f_X0_hasOwnEntries nW nB E))) := by
  refine ent (own := RX0) rfl (by decide) (Nat.le_of_ble_eq_true rfl) ?_
  intro p e s m below meth c A ls X hr hlk hmn hAe hA hP hD hS hl
  have hx := X.1.1
  have hb := X.1.2.1
  have hl : lv_has ls 1 [(0, .ref (q 6))] := hl
  refine lv_aload_n hx hb dX0_hasOwnEntries_0 rfl (lv_at hl 0 rfl) ?_
  refine gf_X0_20 X hP dX0_hasOwnEntries_1 ?_
  refine lv_iconst (v := (1 : Int32)) hx hb dX0_hasOwnEntries_4 (by decide) ?_
  refine lv_iand hx hb dX0_hasOwnEntries_5 ?_
  refine lv_if_eq (tgt := 13) hx hb dX0_hasOwnEntries_6 (by decide) (fun c_1 => ?_) (fun c_1 => ?_)
  ·
    refine lv_iconst (v := (0 : Int32)) hx hb dX0_hasOwnEntries_13 (by decide) ?_
    exact rg_z (v := false) (F := (f_X0_hasOwnEntries nW nB E)) (by unfold f_X0_hasOwnEntries; rw [if_pos c_1]; try rfl) X hP hD hS hAe hr hlk dX0_hasOwnEntries_14
  ·
    refine lv_iconst (v := (1 : Int32)) hx hb dX0_hasOwnEntries_9 (by decide) ?_
    refine lv_goto (tgt := 14) hx hb dX0_hasOwnEntries_10 (by decide) ?_
    exact rg_z (v := true) (F := (f_X0_hasOwnEntries nW nB E)) (by unfold f_X0_hasOwnEntries; rw [if_neg c_1]; try rfl) X hP hD hS hAe hr hlk dX0_hasOwnEntries_14
set_option maxHeartbeats 4000000 in
set_option maxRecDepth 100000 in
theorem c_X0_timerEnabled (l : Launch) (D : va_G) (q : Nat → Nat) (ca : Nat → ClassId) (nW nB : Nat) (hk : KOk nW nB) (E : KS) : Mt l yX0_timerEnabled cX0_timerEnabled 1 (some .boolean) 0 D (tysK ca) [.ref (q 6)] (cwK q ca nW nB E) (QcI D (cwK q ca nW nB E) (cwK q ca nW nB E) (b2i (f_X0_timerEnabled nW nB E))) := by
  refine ent (own := RX0) rfl (by decide) (Nat.le_of_ble_eq_true rfl) ?_
  intro p e s m below meth c A ls X hr hlk hmn hAe hA hP hD hS hl
  have hx := X.1.1
  have hb := X.1.2.1
  have hl : lv_has ls 1 [(0, .ref (q 6))] := hl
  refine lv_aload_n hx hb dX0_timerEnabled_0 rfl (lv_at hl 0 rfl) ?_
  refine gf_X0_16 X hP dX0_timerEnabled_1 ?_
  refine lv_sipush (v := (128 : Int32)) hx hb dX0_timerEnabled_4 (by decide) ?_
  refine lv_iand hx hb dX0_timerEnabled_7 ?_
  refine lv_if_eq (tgt := 15) hx hb dX0_timerEnabled_8 (by decide) (fun c_1 => ?_) (fun c_1 => ?_)
  ·
    refine lv_iconst (v := (0 : Int32)) hx hb dX0_timerEnabled_15 (by decide) ?_
    exact rg_z (v := false) (F := (f_X0_timerEnabled nW nB E)) (by unfold f_X0_timerEnabled; rw [if_pos c_1]; try rfl) X hP hD hS hAe hr hlk dX0_timerEnabled_16
  ·
    refine lv_iconst (v := (1 : Int32)) hx hb dX0_timerEnabled_11 (by decide) ?_
    refine lv_goto (tgt := 16) hx hb dX0_timerEnabled_12 (by decide) ?_
    exact rg_z (v := true) (F := (f_X0_timerEnabled nW nB E)) (by unfold f_X0_timerEnabled; rw [if_neg c_1]; try rfl) X hP hD hS hAe hr hlk dX0_timerEnabled_16
set_option maxHeartbeats 4000000 in
set_option maxRecDepth 100000 in
theorem c_X4_s (l : Launch) (D : va_G) (tys : List (ClassId × FieldType)) (ws : va_W) (a1 : Int32) : Mt l yX4_s cX4_s 1 (some .int) 0 D tys [.int a1] ws (QcI D ws ws (f_X4_s a1)) := by
  refine ent (own := RX4) rfl (by decide) (Nat.le_of_ble_eq_true rfl) ?_
  intro p e s m below meth c A ls X hr hlk hmn hAe hA hP hD hS hl
  have hx := X.1.1
  have hb := X.1.2.1
  have hl : lv_has ls 1 [(0, .int a1)] := hl
  refine lv_iload_n hx hb dX4_s_0 rfl (lv_at hl 0 rfl) ?_
  refine lv_bipush (v := (15 : Int32)) hx hb dX4_s_1 (by decide) ?_
  refine lv_iushr (v := (jushr a1 (15 : Int32))) hx hb dX4_s_3 rfl ?_
  refine lv_bipush (v := (31 : Int32)) hx hb dX4_s_4 (by decide) ?_
  refine lv_iand hx hb dX4_s_6 ?_
  exact rg_i (v := ((jushr a1 (15 : Int32)) &&& (31 : Int32))) (F := (f_X4_s a1)) rfl X hP hD hS hAe hr hlk dX4_s_7
set_option maxHeartbeats 4000000 in
set_option maxRecDepth 100000 in
theorem c_X4_a (l : Launch) (D : va_G) (q : Nat → Nat) (ca : Nat → ClassId) (nW nB : Nat) (hk : KOk nW nB) (E : KS) (a1 : Int32) : Mt l yX4_a cX4_a 2 (some .int) 1 D (tysK ca) [.ref (q 0), .int a1] (cwK q ca nW nB E) (QcI D (cwK q ca nW nB E) (cwK q ca nW nB E) (f_X4_a nW nB E a1)) := by
  refine ent (own := RX4) rfl (by decide) (Nat.le_of_ble_eq_true rfl) ?_
  intro p e s m below meth c A ls X hr hlk hmn hAe hA hP hD hS hl
  have hx := X.1.1
  have hb := X.1.2.1
  have hl : lv_has ls 2 [(0, .ref (q 0)), (1, .int a1)] := hl
  refine lv_aload_n hx hb dX4_a_0 rfl (lv_at hl 0 rfl) ?_
  refine gf_X4_49 X hP dX4_a_1 ?_
  refine lv_iload_n hx hb dX4_a_4 rfl (lv_at hl 1 rfl) ?_
  refine go_i (rn_S X (c_X4_s l D _ _ a1) ok_X4_s wd_280 ⟨by decide, by decide⟩ hP hD rfl hl.1 rfl (Nat.le_of_ble_eq_true rfl) dX4_a_5 ⟨Nat.zero_le _, Nat.zero_le _⟩) hP hD hS hA (fun H locs hP hD hS => ?_)
  refine kld_7 X hP (pk_andIn _ 5 rfl (by decide)) dX4_a_8 ?_
  exact rg_i (v := (kx E ((f_X4_s a1)).toNatClampNeg)) (F := (f_X4_a nW nB E a1)) rfl X hP hD hS hAe hr hlk dX4_a_9
set_option maxHeartbeats 4000000 in
set_option maxRecDepth 100000 in
theorem c_X4_b (l : Launch) (D : va_G) (q : Nat → Nat) (ca : Nat → ClassId) (nW nB : Nat) (hk : KOk nW nB) (E : KS) (a1 : Int32) : Mt l yX4_b cX4_b 2 (some .int) 0 D (tysK ca) [.ref (q 0), .int a1] (cwK q ca nW nB E) (QcI D (cwK q ca nW nB E) (cwK q ca nW nB E) (f_X4_b nW nB E a1)) := by
  refine ent (own := RX4) rfl (by decide) (Nat.le_of_ble_eq_true rfl) ?_
  intro p e s m below meth c A ls X hr hlk hmn hAe hA hP hD hS hl
  have hx := X.1.1
  have hb := X.1.2.1
  have hl : lv_has ls 2 [(0, .ref (q 0)), (1, .int a1)] := hl
  refine lv_aload_n hx hb dX4_b_0 rfl (lv_at hl 0 rfl) ?_
  refine gf_X4_49 X hP dX4_b_1 ?_
  refine lv_iload_n hx hb dX4_b_4 rfl (lv_at hl 1 rfl) ?_
  refine lv_bipush (v := (20 : Int32)) hx hb dX4_b_5 (by decide) ?_
  refine lv_iushr (v := (jushr a1 (20 : Int32))) hx hb dX4_b_7 rfl ?_
  refine lv_bipush (v := (31 : Int32)) hx hb dX4_b_8 (by decide) ?_
  refine lv_iand hx hb dX4_b_10 ?_
  refine kld_7 X hP (pk_andIn _ 5 rfl (by decide)) dX4_b_11 ?_
  exact rg_i (v := (kx E (((jushr a1 (20 : Int32)) &&& (31 : Int32))).toNatClampNeg)) (F := (f_X4_b nW nB E a1)) rfl X hP hD hS hAe hr hlk dX4_b_12
set_option maxHeartbeats 4000000 in
set_option maxRecDepth 100000 in
theorem c_X4_belowUnsigned (l : Launch) (D : va_G) (tys : List (ClassId × FieldType)) (ws : va_W) (a1 : Int32) (a2 : Int32) : Mt l yX4_belowUnsigned cX4_belowUnsigned 2 (some .boolean) 2 D tys [.int a1, .int a2] ws (QcI D ws ws (b2i (f_X4_belowUnsigned a1 a2))) := by
  refine ent (own := RX4) rfl (by decide) (Nat.le_of_ble_eq_true rfl) ?_
  intro p e s m below meth c A ls X hr hlk hmn hAe hA hP hD hS hl
  have hx := X.1.1
  have hb := X.1.2.1
  have hl : lv_has ls 2 [(0, .int a1), (1, .int a2)] := hl
  refine lv_iload_n hx hb dX4_belowUnsigned_0 rfl (lv_at hl 0 rfl) ?_
  refine lv_iload_n hx hb dX4_belowUnsigned_1 rfl (lv_at hl 1 rfl) ?_
  refine go_i (rn_S X (c_J6_compareUnsigned_7cf53 l D _ _ a1 a2) ok_J6_compareUnsigned_7cf53 wd_304 ⟨by decide, by decide⟩ hP hD rfl hl.1 rfl (Nat.le_of_ble_eq_true rfl) dX4_belowUnsigned_2 ⟨Nat.zero_le _, Nat.zero_le _⟩) hP hD hS hA (fun H locs hP hD hS => ?_)
  refine lv_if_ge (tgt := 12) hx hb dX4_belowUnsigned_5 (by decide) (fun c_1 => ?_) (fun c_1 => ?_)
  ·
    refine lv_iconst (v := (0 : Int32)) hx hb dX4_belowUnsigned_12 (by decide) ?_
    exact rg_z (v := false) (F := (f_X4_belowUnsigned a1 a2)) (by unfold f_X4_belowUnsigned; rw [if_pos c_1]; try rfl) X hP hD hS hAe hr hlk dX4_belowUnsigned_13
  ·
    refine lv_iconst (v := (1 : Int32)) hx hb dX4_belowUnsigned_8 (by decide) ?_
    refine lv_goto (tgt := 13) hx hb dX4_belowUnsigned_9 (by decide) ?_
    exact rg_z (v := true) (F := (f_X4_belowUnsigned a1 a2)) (by unfold f_X4_belowUnsigned; rw [if_neg c_1]; try rfl) X hP hD hS hAe hr hlk dX4_belowUnsigned_13
set_option maxHeartbeats 4000000 in
set_option maxRecDepth 100000 in
theorem c_X4_compares (l : Launch) (D : va_G) (tys : List (ClassId × FieldType)) (ws : va_W) (a1 : Int32) (a2 : Int32) (a3 : Int32) : Mt l yX4_compares cX4_compares 3 (some .boolean) 3 D tys [.int a1, .int a2, .int a3] ws (QcI D ws ws (b2i (f_X4_compares a1 a2 a3))) := by
  refine ent (own := RX4) rfl (by decide) (Nat.le_of_ble_eq_true rfl) ?_
  intro p e s m below meth c A ls X hr hlk hmn hAe hA hP hD hS hl
  have hx := X.1.1
  have hb := X.1.2.1
  have hl : lv_has ls 3 [(0, .int a1), (1, .int a2), (2, .int a3)] := hl
  refine lv_iload_n hx hb dX4_compares_0 rfl (lv_at hl 0 rfl) ?_
  by_cases c_1 : a1 = (0 : Int32)
  ·
    refine lv_lookup (off := 27) (tgt := 28) hx hb dX4_compares_1 (by decide) (by rw [c_1]; decide) (by decide) ?_
    refine lv_iload_n hx hb dX4_compares_28 rfl (lv_at hl 1 rfl) ?_
    refine lv_iload_n hx hb dX4_compares_29 rfl (lv_at hl 2 rfl) ?_
    refine lv_icmp_ne (tgt := 37) hx hb dX4_compares_30 (by decide) (fun c_2 => ?_) (fun c_2 => ?_)
    ·
      refine lv_iconst (v := (0 : Int32)) hx hb dX4_compares_37 (by decide) ?_
      exact rg_z (v := false) (F := (f_X4_compares a1 a2 a3)) (by unfold f_X4_compares; rw [if_pos c_1, if_neg c_2]; try rfl) X hP hD hS hAe hr hlk dX4_compares_38
    ·
      refine lv_iconst (v := (1 : Int32)) hx hb dX4_compares_33 (by decide) ?_
      refine lv_goto (tgt := 38) hx hb dX4_compares_34 (by decide) ?_
      exact rg_z (v := true) (F := (f_X4_compares a1 a2 a3)) (by unfold f_X4_compares; rw [if_pos c_1, if_pos c_2]; try rfl) X hP hD hS hAe hr hlk dX4_compares_38
  by_cases c_3 : a1 = (4 : Int32)
  ·
    refine lv_lookup (off := 38) (tgt := 39) hx hb dX4_compares_1 (by decide) (by rw [c_3]; decide) (by decide) ?_
    refine lv_iload_n hx hb dX4_compares_39 rfl (lv_at hl 1 rfl) ?_
    refine lv_iload_n hx hb dX4_compares_40 rfl (lv_at hl 2 rfl) ?_
    refine lv_icmp_ge (tgt := 48) hx hb dX4_compares_41 (by decide) (fun c_4 => ?_) (fun c_4 => ?_)
    ·
      refine lv_iconst (v := (0 : Int32)) hx hb dX4_compares_48 (by decide) ?_
      exact rg_z (v := false) (F := (f_X4_compares a1 a2 a3)) (by unfold f_X4_compares; rw [if_neg c_1, if_pos c_3, if_pos c_4]; try rfl) X hP hD hS hAe hr hlk dX4_compares_49
    ·
      refine lv_iconst (v := (1 : Int32)) hx hb dX4_compares_44 (by decide) ?_
      refine lv_goto (tgt := 49) hx hb dX4_compares_45 (by decide) ?_
      exact rg_z (v := true) (F := (f_X4_compares a1 a2 a3)) (by unfold f_X4_compares; rw [if_neg c_1, if_pos c_3, if_neg c_4]; try rfl) X hP hD hS hAe hr hlk dX4_compares_49
  refine lv_lookup (off := 49) (tgt := 50) hx hb dX4_compares_1 (by decide) ((lv_osw c_1 (by decide)).trans ((lv_osw c_3 (by decide)).trans rfl)) (by decide) ?_
  refine lv_iload_n hx hb dX4_compares_50 rfl (lv_at hl 1 rfl) ?_
  refine lv_iload_n hx hb dX4_compares_51 rfl (lv_at hl 2 rfl) ?_
  refine go_i (rn_S X (c_X4_belowUnsigned l D _ _ a2 a3) ok_X4_belowUnsigned wd_301 ⟨by decide, by decide⟩ hP hD rfl hl.1 rfl (Nat.le_of_ble_eq_true rfl) dX4_compares_52 ⟨Nat.zero_le _, Nat.zero_le _⟩) hP hD hS hA (fun H locs hP hD hS => ?_)
  exact rg_z (v := (f_X4_belowUnsigned a2 a3)) (F := (f_X4_compares a1 a2 a3)) (by unfold f_X4_compares; rw [if_neg c_1, if_neg c_3]; try rfl) X hP hD hS hAe hr hlk dX4_compares_55
set_option maxHeartbeats 4000000 in
set_option maxRecDepth 100000 in
theorem c_X4_f (l : Launch) (D : va_G) (tys : List (ClassId × FieldType)) (ws : va_W) (a1 : Int32) : Mt l yX4_f cX4_f 1 (some .int) 0 D tys [.int a1] ws (QcI D ws ws (f_X4_f a1)) := by
  refine ent (own := RX4) rfl (by decide) (Nat.le_of_ble_eq_true rfl) ?_
  intro p e s m below meth c A ls X hr hlk hmn hAe hA hP hD hS hl
  have hx := X.1.1
  have hb := X.1.2.1
  have hl : lv_has ls 1 [(0, .int a1)] := hl
  refine lv_iload_n hx hb dX4_f_0 rfl (lv_at hl 0 rfl) ?_
  refine lv_bipush (v := (12 : Int32)) hx hb dX4_f_1 (by decide) ?_
  refine lv_iushr (v := (jushr a1 (12 : Int32))) hx hb dX4_f_3 rfl ?_
  refine lv_bipush (v := (7 : Int32)) hx hb dX4_f_4 (by decide) ?_
  refine lv_iand hx hb dX4_f_6 ?_
  exact rg_i (v := ((jushr a1 (12 : Int32)) &&& (7 : Int32))) (F := (f_X4_f a1)) rfl X hP hD hS hAe hr hlk dX4_f_7
set_option maxHeartbeats 4000000 in
set_option maxRecDepth 100000 in
theorem c_X4_trap (l : Launch) (D : va_G) (q : Nat → Nat) (ca : Nat → ClassId) (nW nB : Nat) (hk : KOk nW nB) (E : KS) (a1 : Int32) (a2 : Int32) : Mt l yX4_trap cX4_trap 3 (some .int) 1 D (tysK ca) [.ref (q 0), .int a1, .int a2] (cwK q ca nW nB E) (QcI D (cwK q ca nW nB E) (cwK q ca nW nB (f_X4_trap nW nB E a1 a2).2) (f_X4_trap nW nB E a1 a2).1) := by
  refine ent (own := RX4) rfl (by decide) (Nat.le_of_ble_eq_true rfl) ?_
  intro p e s m below meth c A ls X hr hlk hmn hAe hA hP hD hS hl
  have hx := X.1.1
  have hb := X.1.2.1
  have hl : lv_has ls 3 [(0, .ref (q 0)), (1, .int a1), (2, .int a2)] := hl
  refine lv_aload_n hx hb dX4_trap_0 rfl (lv_at hl 0 rfl) ?_
  refine lv_aload_n hx hb dX4_trap_1 rfl (lv_at hl 0 rfl) ?_
  refine gf_X4_45 X hP dX4_trap_2 ?_
  refine lv_aload_n hx hb dX4_trap_5 rfl (lv_at hl 0 rfl) ?_
  refine gf_X4_56 X hP dX4_trap_6 ?_
  refine lv_iload_n hx hb dX4_trap_9 rfl (lv_at hl 1 rfl) ?_
  refine lv_iload_n hx hb dX4_trap_10 rfl (lv_at hl 2 rfl) ?_
  refine go_i (rn_V (ci := 0) (q0 := 6) X (c_X0_enter l D q ca nW nB hk E (kplace E) a1 a2) ok_X0_enter wd_237 ⟨by decide, by decide⟩ hP hD rfl rfl rfl hl.1 rfl (Nat.le_of_ble_eq_true rfl) dX4_trap_11 ⟨Nat.zero_le _, Nat.zero_le _⟩) hP hD hS hA (fun H locs hP hD hS => ?_)
  refine pf_X4_56 X hP hD hS (f_X0_enter nW nB E (kplace E) a1 a2).1 dX4_trap_14 (fun H locs hP hD hS => ?_)
  refine lv_iconst (v := (1 : Int32)) hx hb dX4_trap_17 (by decide) ?_
  exact rku_i (v := (1 : Int32)) (F := (f_X4_trap nW nB E a1 a2)) (E1 := (kplace_ (f_X0_enter nW nB E (kplace E) a1 a2).2 (f_X0_enter nW nB E (kplace E) a1 a2).1)) rfl X hP hD hS hAe hr hlk dX4_trap_18
set_option maxHeartbeats 4000000 in
set_option maxRecDepth 100000 in
theorem c_X4_illegal (l : Launch) (D : va_G) (q : Nat → Nat) (ca : Nat → ClassId) (nW nB : Nat) (hk : KOk nW nB) (E : KS) (a1 : Int32) : Mt l yX4_illegal cX4_illegal 2 (some .int) 2 D (tysK ca) [.ref (q 0), .int a1] (cwK q ca nW nB E) (QcI D (cwK q ca nW nB E) (cwK q ca nW nB (f_X4_illegal nW nB E a1).2) (f_X4_illegal nW nB E a1).1) := by
  refine ent (own := RX4) rfl (by decide) (Nat.le_of_ble_eq_true rfl) ?_
  intro p e s m below meth c A ls X hr hlk hmn hAe hA hP hD hS hl
  have hx := X.1.1
  have hb := X.1.2.1
  have hl : lv_has ls 2 [(0, .ref (q 0)), (1, .int a1)] := hl
  refine lv_aload_n hx hb dX4_illegal_0 rfl (lv_at hl 0 rfl) ?_
  refine lv_iconst (v := (2 : Int32)) hx hb dX4_illegal_1 (by decide) ?_
  refine lv_iload_n hx hb dX4_illegal_2 rfl (lv_at hl 1 rfl) ?_
  refine go_i (rn_V (ci := 4) (q0 := 0) X (c_X4_trap l D q ca nW nB hk E (2 : Int32) a1) ok_X4_trap wd_249 ⟨by decide, by decide⟩ hP hD rfl rfl rfl hl.1 rfl (Nat.le_of_ble_eq_true rfl) dX4_illegal_3 ⟨Nat.zero_le _, Nat.zero_le _⟩) hP hD hS hA (fun H locs hP hD hS => ?_)
  exact rku_i (v := (f_X4_trap nW nB E (2 : Int32) a1).1) (F := (f_X4_illegal nW nB E a1)) (E1 := (f_X4_trap nW nB E (2 : Int32) a1).2) rfl X hP hD hS hAe hr hlk dX4_illegal_6
set_option maxHeartbeats 4000000 in
set_option maxRecDepth 100000 in
theorem c_X4_offsetB (l : Launch) (D : va_G) (tys : List (ClassId × FieldType)) (ws : va_W) (a1 : Int32) : Mt l yX4_offsetB cX4_offsetB 1 (some .int) 0 D tys [.int a1] ws (QcI D ws ws (f_X4_offsetB a1)) := by
  refine ent (own := RX4) rfl (by decide) (Nat.le_of_ble_eq_true rfl) ?_
  intro p e s m below meth c A ls X hr hlk hmn hAe hA hP hD hS hl
  have hx := X.1.1
  have hb := X.1.2.1
  have hl : lv_has ls 1 [(0, .int a1)] := hl
  refine lv_iload_n hx hb dX4_offsetB_0 rfl (lv_at hl 0 rfl) ?_
  refine lv_bipush (v := (31 : Int32)) hx hb dX4_offsetB_1 (by decide) ?_
  refine lv_ishr hx hb dX4_offsetB_3 ?_
  refine lv_bipush (v := (12 : Int32)) hx hb dX4_offsetB_4 (by decide) ?_
  refine lv_ishl hx hb dX4_offsetB_6 ?_
  refine lv_iload_n hx hb dX4_offsetB_7 rfl (lv_at hl 0 rfl) ?_
  refine lv_bipush (v := (7 : Int32)) hx hb dX4_offsetB_8 (by decide) ?_
  refine lv_iushr (v := (jushr a1 (7 : Int32))) hx hb dX4_offsetB_10 rfl ?_
  refine lv_iconst (v := (1 : Int32)) hx hb dX4_offsetB_11 (by decide) ?_
  refine lv_iand hx hb dX4_offsetB_12 ?_
  refine lv_bipush (v := (11 : Int32)) hx hb dX4_offsetB_13 (by decide) ?_
  refine lv_ishl hx hb dX4_offsetB_15 ?_
  refine lv_ior hx hb dX4_offsetB_16 ?_
  refine lv_iload_n hx hb dX4_offsetB_17 rfl (lv_at hl 0 rfl) ?_
  refine lv_bipush (v := (25 : Int32)) hx hb dX4_offsetB_18 (by decide) ?_
  refine lv_iushr (v := (jushr a1 (25 : Int32))) hx hb dX4_offsetB_20 rfl ?_
  refine lv_bipush (v := (63 : Int32)) hx hb dX4_offsetB_21 (by decide) ?_
  refine lv_iand hx hb dX4_offsetB_23 ?_
  refine lv_iconst (v := (5 : Int32)) hx hb dX4_offsetB_24 (by decide) ?_
  refine lv_ishl hx hb dX4_offsetB_25 ?_
  refine lv_ior hx hb dX4_offsetB_26 ?_
  refine lv_iload_n hx hb dX4_offsetB_27 rfl (lv_at hl 0 rfl) ?_
  refine lv_bipush (v := (8 : Int32)) hx hb dX4_offsetB_28 (by decide) ?_
  refine lv_iushr (v := (jushr a1 (8 : Int32))) hx hb dX4_offsetB_30 rfl ?_
  refine lv_bipush (v := (15 : Int32)) hx hb dX4_offsetB_31 (by decide) ?_
  refine lv_iand hx hb dX4_offsetB_33 ?_
  refine lv_iconst (v := (1 : Int32)) hx hb dX4_offsetB_34 (by decide) ?_
  refine lv_ishl hx hb dX4_offsetB_35 ?_
  refine lv_ior hx hb dX4_offsetB_36 ?_
  exact rg_i (v := (((((a1 >>> ((31 : Int32) &&& 31)) <<< ((12 : Int32) &&& 31)) ||| (((jushr a1 (7 : Int32)) &&& (1 : Int32)) <<< ((11 : Int32) &&& 31))) ||| (((jushr a1 (25 : Int32)) &&& (63 : Int32)) <<< ((5 : Int32) &&& 31))) ||| (((jushr a1 (8 : Int32)) &&& (15 : Int32)) <<< ((1 : Int32) &&& 31)))) (F := (f_X4_offsetB a1)) rfl X hP hD hS hAe hr hlk dX4_offsetB_37
set_option maxHeartbeats 4000000 in
set_option maxRecDepth 100000 in
theorem c_X4_retireAt (l : Launch) (D : va_G) (q : Nat → Nat) (ca : Nat → ClassId) (nW nB : Nat) (hk : KOk nW nB) (E : KS) (a1 : Int32) : Mt l yX4_retireAt cX4_retireAt 2 (some .int) 0 D (tysK ca) [.ref (q 0), .int a1] (cwK q ca nW nB E) (QcI D (cwK q ca nW nB E) (cwK q ca nW nB (f_X4_retireAt nW nB E a1).2) (f_X4_retireAt nW nB E a1).1) := by
  refine ent (own := RX4) rfl (by decide) (Nat.le_of_ble_eq_true rfl) ?_
  intro p e s m below meth c A ls X hr hlk hmn hAe hA hP hD hS hl
  have hx := X.1.1
  have hb := X.1.2.1
  have hl : lv_has ls 2 [(0, .ref (q 0)), (1, .int a1)] := hl
  refine lv_aload_n hx hb dX4_retireAt_0 rfl (lv_at hl 0 rfl) ?_
  refine lv_iload_n hx hb dX4_retireAt_1 rfl (lv_at hl 1 rfl) ?_
  refine pf_X4_56 X hP hD hS a1 dX4_retireAt_2 (fun H locs hP hD hS => ?_)
  refine lv_aload_n hx hb dX4_retireAt_5 rfl (lv_at hl 0 rfl) ?_
  refine lv_dup hx hb dX4_retireAt_6 rfl ?_
  refine gf_X4_64 X hP dX4_retireAt_7 ?_
  refine tw_eql (y := (kretired E)) (gs_kretired_place _ _) ?_
  refine lv_lconst (v := (1 : Int64)) hx hb dX4_retireAt_10 (by decide) ?_
  refine lv_ladd hx hb dX4_retireAt_11 ?_
  refine pf_X4_64 X hP hD hS ((kretired E) + (1 : Int64)) dX4_retireAt_12 (fun H locs hP hD hS => ?_)
  refine lv_iconst (v := (0 : Int32)) hx hb dX4_retireAt_15 (by decide) ?_
  exact rku_i (v := (0 : Int32)) (F := (f_X4_retireAt nW nB E a1)) (E1 := (kretired_ (kplace_ E a1) ((kretired E) + (1 : Int64)))) rfl X hP hD hS hAe hr hlk dX4_retireAt_16
set_option maxHeartbeats 4000000 in
set_option maxRecDepth 100000 in
theorem c_X4_branch (l : Launch) (D : va_G) (q : Nat → Nat) (ca : Nat → ClassId) (nW nB : Nat) (hk : KOk nW nB) (E : KS) (a1 : Int32) : Mt l yX4_branch cX4_branch 5 (some .int) 4 D (tysK ca) [.ref (q 0), .int a1] (cwK q ca nW nB E) (QcI D (cwK q ca nW nB E) (cwK q ca nW nB (f_X4_branch nW nB E a1).2) (f_X4_branch nW nB E a1).1) := by
  refine ent (own := RX4) rfl (by decide) (Nat.le_of_ble_eq_true rfl) ?_
  intro p e s m below meth c A ls X hr hlk hmn hAe hA hP hD hS hl
  have hx := X.1.1
  have hb := X.1.2.1
  have hl : lv_has ls 5 [(0, .ref (q 0)), (1, .int a1)] := hl
  refine lv_iload_n hx hb dX4_branch_0 rfl (lv_at hl 1 rfl) ?_
  refine go_i (rn_S X (c_X4_f l D _ _ a1) ok_X4_f wd_273 ⟨by decide, by decide⟩ hP hD rfl hl.1 rfl (Nat.le_of_ble_eq_true rfl) dX4_branch_1 ⟨Nat.zero_le _, Nat.zero_le _⟩) hP hD hS hA (fun H locs hP hD hS => ?_)
  refine lv_istore_n (lv' := [(2, .int (f_X4_f a1)), (0, .ref (q 0)), (1, .int a1)]) hx hb dX4_branch_4 rfl hl (by decide) rfl (fun ls hl => ?_)
  refine lv_iload_n hx hb dX4_branch_5 rfl (lv_at hl 0 rfl) ?_
  refine lv_iconst (v := (2 : Int32)) hx hb dX4_branch_6 (by decide) ?_
  refine lv_icmp_eq (tgt := 15) hx hb dX4_branch_7 (by decide) (fun c_1 => ?_) (fun c_1 => ?_)
  ·
    refine lv_aload_n hx hb dX4_branch_15 rfl (lv_at hl 1 rfl) ?_
    refine lv_iload_n hx hb dX4_branch_16 rfl (lv_at hl 2 rfl) ?_
    refine go_i (rn_V (ci := 4) (q0 := 0) X (c_X4_illegal l D q ca nW nB hk E a1) ok_X4_illegal wd_286 ⟨by decide, by decide⟩ hP hD rfl rfl rfl hl.1 rfl (Nat.le_of_ble_eq_true rfl) dX4_branch_17 ⟨Nat.zero_le _, Nat.zero_le _⟩) hP hD hS hA (fun H locs hP hD hS => ?_)
    exact rku_i (v := (f_X4_illegal nW nB E a1).1) (F := (f_X4_branch nW nB E a1)) (E1 := (f_X4_illegal nW nB E a1).2) (by unfold f_X4_branch; rw [if_pos c_1]; try rfl) X hP hD hS hAe hr hlk dX4_branch_20
  ·
    refine lv_iload_n hx hb dX4_branch_10 rfl (lv_at hl 0 rfl) ?_
    refine lv_iconst (v := (3 : Int32)) hx hb dX4_branch_11 (by decide) ?_
    refine lv_icmp_ne (tgt := 21) hx hb dX4_branch_12 (by decide) (fun c_2 => ?_) (fun c_2 => ?_)
    ·
      refine lv_iload_n hx hb dX4_branch_21 rfl (lv_at hl 0 rfl) ?_
      refine lv_bipush (v := (6 : Int32)) hx hb dX4_branch_22 (by decide) ?_
      refine lv_iand hx hb dX4_branch_24 ?_
      refine lv_aload_n hx hb dX4_branch_25 rfl (lv_at hl 1 rfl) ?_
      refine lv_iload_n hx hb dX4_branch_26 rfl (lv_at hl 2 rfl) ?_
      refine go_i (rn_V (ci := 4) (q0 := 0) X (c_X4_a l D q ca nW nB hk E a1) ok_X4_a wd_276 ⟨by decide, by decide⟩ hP hD rfl rfl rfl hl.1 rfl (Nat.le_of_ble_eq_true rfl) dX4_branch_27 ⟨Nat.zero_le _, Nat.zero_le _⟩) hP hD hS hA (fun H locs hP hD hS => ?_)
      refine lv_aload_n hx hb dX4_branch_30 rfl (lv_at hl 1 rfl) ?_
      refine lv_iload_n hx hb dX4_branch_31 rfl (lv_at hl 2 rfl) ?_
      refine go_i (rn_V (ci := 4) (q0 := 0) X (c_X4_b l D q ca nW nB hk E a1) ok_X4_b wd_294 ⟨by decide, by decide⟩ hP hD rfl rfl rfl hl.1 rfl (Nat.le_of_ble_eq_true rfl) dX4_branch_32 ⟨Nat.zero_le _, Nat.zero_le _⟩) hP hD hS hA (fun H locs hP hD hS => ?_)
      refine go_i (rn_S X (c_X4_compares l D _ _ ((f_X4_f a1) &&& (6 : Int32)) (f_X4_a nW nB E a1) (f_X4_b nW nB E a1)) ok_X4_compares wd_298 ⟨by decide, by decide⟩ hP hD rfl hl.1 rfl (Nat.le_of_ble_eq_true rfl) dX4_branch_35 ⟨Nat.zero_le _, Nat.zero_le _⟩) hP hD hS hA (fun H locs hP hD hS => ?_)
      refine lv_iload_n hx hb dX4_branch_38 rfl (lv_at hl 0 rfl) ?_
      refine lv_iconst (v := (1 : Int32)) hx hb dX4_branch_39 (by decide) ?_
      refine lv_iand hx hb dX4_branch_40 ?_
      refine lv_iconst (v := (1 : Int32)) hx hb dX4_branch_41 (by decide) ?_
      refine lv_icmp_ne (tgt := 49) hx hb dX4_branch_42 (by decide) (fun c_3 => ?_) (fun c_3 => ?_)
      ·
        refine lv_iconst (v := (0 : Int32)) hx hb dX4_branch_49 (by decide) ?_
        refine lv_icmp_eq (tgt := 57) hx hb dX4_branch_50 (by decide) (fun c_4 => ?_) (fun c_4 => ?_)
        ·
          refine lv_iconst (v := (0 : Int32)) hx hb dX4_branch_57 (by decide) ?_
          refine lv_istore_n (lv' := [(3, .int (0 : Int32)), (2, .int (f_X4_f a1)), (0, .ref (q 0)), (1, .int a1)]) hx hb dX4_branch_58 rfl hl (by decide) rfl (fun ls hl => ?_)
          refine lv_iload_n hx hb dX4_branch_59 rfl (lv_at hl 0 rfl) ?_
          refine lv_if_eq (tgt := 75) hx hb dX4_branch_60 (by decide) (fun _ => ?_) (fun h => absurd (by decide) h)
          refine lv_aload_n hx hb dX4_branch_75 rfl (lv_at hl 2 rfl) ?_
          refine gf_X4_56 X hP dX4_branch_76 ?_
          refine lv_iconst (v := (4 : Int32)) hx hb dX4_branch_79 (by decide) ?_
          refine lv_iadd hx hb dX4_branch_80 ?_
          refine lv_istore (lv' := [(4, .int ((kplace E) + (4 : Int32))), (3, .int (0 : Int32)), (2, .int (f_X4_f a1)), (0, .ref (q 0)), (1, .int a1)]) hx hb dX4_branch_81 hl (by decide) rfl (fun ls hl => ?_)
          refine lv_iload hx hb dX4_branch_83 (lv_at hl 0 rfl) ?_
          refine lv_iconst (v := (3 : Int32)) hx hb dX4_branch_85 (by decide) ?_
          refine lv_iand hx hb dX4_branch_86 ?_
          refine lv_if_eq (tgt := 100) hx hb dX4_branch_87 (by decide) (fun c_5 => ?_) (fun c_5 => ?_)
          ·
            refine lv_aload_n hx hb dX4_branch_100 rfl (lv_at hl 3 rfl) ?_
            refine lv_iload hx hb dX4_branch_101 (lv_at hl 0 rfl) ?_
            refine go_i (rn_V (ci := 4) (q0 := 0) X (c_X4_retireAt l D q ca nW nB hk E ((kplace E) + (4 : Int32))) ok_X4_retireAt wd_261 ⟨by decide, by decide⟩ hP hD rfl rfl rfl hl.1 rfl (Nat.le_of_ble_eq_true rfl) dX4_branch_103 ⟨Nat.zero_le _, Nat.zero_le _⟩) hP hD hS hA (fun H locs hP hD hS => ?_)
            exact rku_i (v := (f_X4_retireAt nW nB E ((kplace E) + (4 : Int32))).1) (F := (f_X4_branch nW nB E a1)) (E1 := (f_X4_retireAt nW nB E ((kplace E) + (4 : Int32))).2) (by unfold f_X4_branch; rw [if_neg c_1, if_neg c_2, if_neg c_3, if_pos c_4, if_pos c_5]; try rfl) X hP hD hS hAe hr hlk dX4_branch_106
          ·
            refine lv_aload_n hx hb dX4_branch_90 rfl (lv_at hl 3 rfl) ?_
            refine lv_iconst (v := (0 : Int32)) hx hb dX4_branch_91 (by decide) ?_
            refine lv_iload hx hb dX4_branch_92 (lv_at hl 0 rfl) ?_
            refine go_i (rn_V (ci := 4) (q0 := 0) X (c_X4_trap l D q ca nW nB hk E (0 : Int32) ((kplace E) + (4 : Int32))) ok_X4_trap wd_249 ⟨by decide, by decide⟩ hP hD rfl rfl rfl hl.1 rfl (Nat.le_of_ble_eq_true rfl) dX4_branch_94 ⟨Nat.zero_le _, Nat.zero_le _⟩) hP hD hS hA (fun H locs hP hD hS => ?_)
            refine lv_goto (tgt := 106) hx hb dX4_branch_97 (by decide) ?_
            exact rku_i (v := (f_X4_trap nW nB E (0 : Int32) ((kplace E) + (4 : Int32))).1) (F := (f_X4_branch nW nB E a1)) (E1 := (f_X4_trap nW nB E (0 : Int32) ((kplace E) + (4 : Int32))).2) (by unfold f_X4_branch; rw [if_neg c_1, if_neg c_2, if_neg c_3, if_pos c_4, if_neg c_5]; try rfl) X hP hD hS hAe hr hlk dX4_branch_106
        ·
          refine lv_iconst (v := (1 : Int32)) hx hb dX4_branch_53 (by decide) ?_
          refine lv_goto (tgt := 58) hx hb dX4_branch_54 (by decide) ?_
          refine lv_istore_n (lv' := [(3, .int (1 : Int32)), (2, .int (f_X4_f a1)), (0, .ref (q 0)), (1, .int a1)]) hx hb dX4_branch_58 rfl hl (by decide) rfl (fun ls hl => ?_)
          refine lv_iload_n hx hb dX4_branch_59 rfl (lv_at hl 0 rfl) ?_
          refine lv_if_eq (tgt := 75) hx hb dX4_branch_60 (by decide) (fun h => absurd h (by decide)) (fun _ => ?_)
          refine lv_aload_n hx hb dX4_branch_63 rfl (lv_at hl 2 rfl) ?_
          refine gf_X4_56 X hP dX4_branch_64 ?_
          refine lv_iload_n hx hb dX4_branch_67 rfl (lv_at hl 3 rfl) ?_
          refine go_i (rn_S X (c_X4_offsetB l D _ _ a1) ok_X4_offsetB wd_311 ⟨by decide, by decide⟩ hP hD rfl hl.1 rfl (Nat.le_of_ble_eq_true rfl) dX4_branch_68 ⟨Nat.zero_le _, Nat.zero_le _⟩) hP hD hS hA (fun H locs hP hD hS => ?_)
          refine lv_iadd hx hb dX4_branch_71 ?_
          refine lv_goto (tgt := 81) hx hb dX4_branch_72 (by decide) ?_
          refine lv_istore (lv' := [(4, .int ((kplace E) + (f_X4_offsetB a1))), (3, .int (1 : Int32)), (2, .int (f_X4_f a1)), (0, .ref (q 0)), (1, .int a1)]) hx hb dX4_branch_81 hl (by decide) rfl (fun ls hl => ?_)
          refine lv_iload hx hb dX4_branch_83 (lv_at hl 0 rfl) ?_
          refine lv_iconst (v := (3 : Int32)) hx hb dX4_branch_85 (by decide) ?_
          refine lv_iand hx hb dX4_branch_86 ?_
          refine lv_if_eq (tgt := 100) hx hb dX4_branch_87 (by decide) (fun c_6 => ?_) (fun c_6 => ?_)
          ·
            refine lv_aload_n hx hb dX4_branch_100 rfl (lv_at hl 3 rfl) ?_
            refine lv_iload hx hb dX4_branch_101 (lv_at hl 0 rfl) ?_
            refine go_i (rn_V (ci := 4) (q0 := 0) X (c_X4_retireAt l D q ca nW nB hk E ((kplace E) + (f_X4_offsetB a1))) ok_X4_retireAt wd_261 ⟨by decide, by decide⟩ hP hD rfl rfl rfl hl.1 rfl (Nat.le_of_ble_eq_true rfl) dX4_branch_103 ⟨Nat.zero_le _, Nat.zero_le _⟩) hP hD hS hA (fun H locs hP hD hS => ?_)
            exact rku_i (v := (f_X4_retireAt nW nB E ((kplace E) + (f_X4_offsetB a1))).1) (F := (f_X4_branch nW nB E a1)) (E1 := (f_X4_retireAt nW nB E ((kplace E) + (f_X4_offsetB a1))).2) (by unfold f_X4_branch; rw [if_neg c_1, if_neg c_2, if_neg c_3, if_neg c_4, if_pos c_6]; try rfl) X hP hD hS hAe hr hlk dX4_branch_106
          ·
            refine lv_aload_n hx hb dX4_branch_90 rfl (lv_at hl 3 rfl) ?_
            refine lv_iconst (v := (0 : Int32)) hx hb dX4_branch_91 (by decide) ?_
            refine lv_iload hx hb dX4_branch_92 (lv_at hl 0 rfl) ?_
            refine go_i (rn_V (ci := 4) (q0 := 0) X (c_X4_trap l D q ca nW nB hk E (0 : Int32) ((kplace E) + (f_X4_offsetB a1))) ok_X4_trap wd_249 ⟨by decide, by decide⟩ hP hD rfl rfl rfl hl.1 rfl (Nat.le_of_ble_eq_true rfl) dX4_branch_94 ⟨Nat.zero_le _, Nat.zero_le _⟩) hP hD hS hA (fun H locs hP hD hS => ?_)
            refine lv_goto (tgt := 106) hx hb dX4_branch_97 (by decide) ?_
            exact rku_i (v := (f_X4_trap nW nB E (0 : Int32) ((kplace E) + (f_X4_offsetB a1))).1) (F := (f_X4_branch nW nB E a1)) (E1 := (f_X4_trap nW nB E (0 : Int32) ((kplace E) + (f_X4_offsetB a1))).2) (by unfold f_X4_branch; rw [if_neg c_1, if_neg c_2, if_neg c_3, if_neg c_4, if_neg c_6]; try rfl) X hP hD hS hAe hr hlk dX4_branch_106
      ·
        refine lv_iconst (v := (1 : Int32)) hx hb dX4_branch_45 (by decide) ?_
        refine lv_goto (tgt := 50) hx hb dX4_branch_46 (by decide) ?_
        refine lv_icmp_eq (tgt := 57) hx hb dX4_branch_50 (by decide) (fun c_7 => ?_) (fun c_7 => ?_)
        ·
          refine lv_iconst (v := (0 : Int32)) hx hb dX4_branch_57 (by decide) ?_
          refine lv_istore_n (lv' := [(3, .int (0 : Int32)), (2, .int (f_X4_f a1)), (0, .ref (q 0)), (1, .int a1)]) hx hb dX4_branch_58 rfl hl (by decide) rfl (fun ls hl => ?_)
          refine lv_iload_n hx hb dX4_branch_59 rfl (lv_at hl 0 rfl) ?_
          refine lv_if_eq (tgt := 75) hx hb dX4_branch_60 (by decide) (fun _ => ?_) (fun h => absurd (by decide) h)
          refine lv_aload_n hx hb dX4_branch_75 rfl (lv_at hl 2 rfl) ?_
          refine gf_X4_56 X hP dX4_branch_76 ?_
          refine lv_iconst (v := (4 : Int32)) hx hb dX4_branch_79 (by decide) ?_
          refine lv_iadd hx hb dX4_branch_80 ?_
          refine lv_istore (lv' := [(4, .int ((kplace E) + (4 : Int32))), (3, .int (0 : Int32)), (2, .int (f_X4_f a1)), (0, .ref (q 0)), (1, .int a1)]) hx hb dX4_branch_81 hl (by decide) rfl (fun ls hl => ?_)
          refine lv_iload hx hb dX4_branch_83 (lv_at hl 0 rfl) ?_
          refine lv_iconst (v := (3 : Int32)) hx hb dX4_branch_85 (by decide) ?_
          refine lv_iand hx hb dX4_branch_86 ?_
          refine lv_if_eq (tgt := 100) hx hb dX4_branch_87 (by decide) (fun c_8 => ?_) (fun c_8 => ?_)
          ·
            refine lv_aload_n hx hb dX4_branch_100 rfl (lv_at hl 3 rfl) ?_
            refine lv_iload hx hb dX4_branch_101 (lv_at hl 0 rfl) ?_
            refine go_i (rn_V (ci := 4) (q0 := 0) X (c_X4_retireAt l D q ca nW nB hk E ((kplace E) + (4 : Int32))) ok_X4_retireAt wd_261 ⟨by decide, by decide⟩ hP hD rfl rfl rfl hl.1 rfl (Nat.le_of_ble_eq_true rfl) dX4_branch_103 ⟨Nat.zero_le _, Nat.zero_le _⟩) hP hD hS hA (fun H locs hP hD hS => ?_)
            exact rku_i (v := (f_X4_retireAt nW nB E ((kplace E) + (4 : Int32))).1) (F := (f_X4_branch nW nB E a1)) (E1 := (f_X4_retireAt nW nB E ((kplace E) + (4 : Int32))).2) (by unfold f_X4_branch; rw [if_neg c_1, if_neg c_2, if_pos c_3, if_pos c_7, if_pos c_8]; try rfl) X hP hD hS hAe hr hlk dX4_branch_106
          ·
            refine lv_aload_n hx hb dX4_branch_90 rfl (lv_at hl 3 rfl) ?_
            refine lv_iconst (v := (0 : Int32)) hx hb dX4_branch_91 (by decide) ?_
            refine lv_iload hx hb dX4_branch_92 (lv_at hl 0 rfl) ?_
            refine go_i (rn_V (ci := 4) (q0 := 0) X (c_X4_trap l D q ca nW nB hk E (0 : Int32) ((kplace E) + (4 : Int32))) ok_X4_trap wd_249 ⟨by decide, by decide⟩ hP hD rfl rfl rfl hl.1 rfl (Nat.le_of_ble_eq_true rfl) dX4_branch_94 ⟨Nat.zero_le _, Nat.zero_le _⟩) hP hD hS hA (fun H locs hP hD hS => ?_)
            refine lv_goto (tgt := 106) hx hb dX4_branch_97 (by decide) ?_
            exact rku_i (v := (f_X4_trap nW nB E (0 : Int32) ((kplace E) + (4 : Int32))).1) (F := (f_X4_branch nW nB E a1)) (E1 := (f_X4_trap nW nB E (0 : Int32) ((kplace E) + (4 : Int32))).2) (by unfold f_X4_branch; rw [if_neg c_1, if_neg c_2, if_pos c_3, if_pos c_7, if_neg c_8]; try rfl) X hP hD hS hAe hr hlk dX4_branch_106
        ·
          refine lv_iconst (v := (1 : Int32)) hx hb dX4_branch_53 (by decide) ?_
          refine lv_goto (tgt := 58) hx hb dX4_branch_54 (by decide) ?_
          refine lv_istore_n (lv' := [(3, .int (1 : Int32)), (2, .int (f_X4_f a1)), (0, .ref (q 0)), (1, .int a1)]) hx hb dX4_branch_58 rfl hl (by decide) rfl (fun ls hl => ?_)
          refine lv_iload_n hx hb dX4_branch_59 rfl (lv_at hl 0 rfl) ?_
          refine lv_if_eq (tgt := 75) hx hb dX4_branch_60 (by decide) (fun h => absurd h (by decide)) (fun _ => ?_)
          refine lv_aload_n hx hb dX4_branch_63 rfl (lv_at hl 2 rfl) ?_
          refine gf_X4_56 X hP dX4_branch_64 ?_
          refine lv_iload_n hx hb dX4_branch_67 rfl (lv_at hl 3 rfl) ?_
          refine go_i (rn_S X (c_X4_offsetB l D _ _ a1) ok_X4_offsetB wd_311 ⟨by decide, by decide⟩ hP hD rfl hl.1 rfl (Nat.le_of_ble_eq_true rfl) dX4_branch_68 ⟨Nat.zero_le _, Nat.zero_le _⟩) hP hD hS hA (fun H locs hP hD hS => ?_)
          refine lv_iadd hx hb dX4_branch_71 ?_
          refine lv_goto (tgt := 81) hx hb dX4_branch_72 (by decide) ?_
          refine lv_istore (lv' := [(4, .int ((kplace E) + (f_X4_offsetB a1))), (3, .int (1 : Int32)), (2, .int (f_X4_f a1)), (0, .ref (q 0)), (1, .int a1)]) hx hb dX4_branch_81 hl (by decide) rfl (fun ls hl => ?_)
          refine lv_iload hx hb dX4_branch_83 (lv_at hl 0 rfl) ?_
          refine lv_iconst (v := (3 : Int32)) hx hb dX4_branch_85 (by decide) ?_
          refine lv_iand hx hb dX4_branch_86 ?_
          refine lv_if_eq (tgt := 100) hx hb dX4_branch_87 (by decide) (fun c_9 => ?_) (fun c_9 => ?_)
          ·
            refine lv_aload_n hx hb dX4_branch_100 rfl (lv_at hl 3 rfl) ?_
            refine lv_iload hx hb dX4_branch_101 (lv_at hl 0 rfl) ?_
            refine go_i (rn_V (ci := 4) (q0 := 0) X (c_X4_retireAt l D q ca nW nB hk E ((kplace E) + (f_X4_offsetB a1))) ok_X4_retireAt wd_261 ⟨by decide, by decide⟩ hP hD rfl rfl rfl hl.1 rfl (Nat.le_of_ble_eq_true rfl) dX4_branch_103 ⟨Nat.zero_le _, Nat.zero_le _⟩) hP hD hS hA (fun H locs hP hD hS => ?_)
            exact rku_i (v := (f_X4_retireAt nW nB E ((kplace E) + (f_X4_offsetB a1))).1) (F := (f_X4_branch nW nB E a1)) (E1 := (f_X4_retireAt nW nB E ((kplace E) + (f_X4_offsetB a1))).2) (by unfold f_X4_branch; rw [if_neg c_1, if_neg c_2, if_pos c_3, if_neg c_7, if_pos c_9]; try rfl) X hP hD hS hAe hr hlk dX4_branch_106
          ·
            refine lv_aload_n hx hb dX4_branch_90 rfl (lv_at hl 3 rfl) ?_
            refine lv_iconst (v := (0 : Int32)) hx hb dX4_branch_91 (by decide) ?_
            refine lv_iload hx hb dX4_branch_92 (lv_at hl 0 rfl) ?_
            refine go_i (rn_V (ci := 4) (q0 := 0) X (c_X4_trap l D q ca nW nB hk E (0 : Int32) ((kplace E) + (f_X4_offsetB a1))) ok_X4_trap wd_249 ⟨by decide, by decide⟩ hP hD rfl rfl rfl hl.1 rfl (Nat.le_of_ble_eq_true rfl) dX4_branch_94 ⟨Nat.zero_le _, Nat.zero_le _⟩) hP hD hS hA (fun H locs hP hD hS => ?_)
            refine lv_goto (tgt := 106) hx hb dX4_branch_97 (by decide) ?_
            exact rku_i (v := (f_X4_trap nW nB E (0 : Int32) ((kplace E) + (f_X4_offsetB a1))).1) (F := (f_X4_branch nW nB E a1)) (E1 := (f_X4_trap nW nB E (0 : Int32) ((kplace E) + (f_X4_offsetB a1))).2) (by unfold f_X4_branch; rw [if_neg c_1, if_neg c_2, if_pos c_3, if_neg c_7, if_neg c_9]; try rfl) X hP hD hS hAe hr hlk dX4_branch_106
    ·
      refine lv_aload_n hx hb dX4_branch_15 rfl (lv_at hl 1 rfl) ?_
      refine lv_iload_n hx hb dX4_branch_16 rfl (lv_at hl 2 rfl) ?_
      refine go_i (rn_V (ci := 4) (q0 := 0) X (c_X4_illegal l D q ca nW nB hk E a1) ok_X4_illegal wd_286 ⟨by decide, by decide⟩ hP hD rfl rfl rfl hl.1 rfl (Nat.le_of_ble_eq_true rfl) dX4_branch_17 ⟨Nat.zero_le _, Nat.zero_le _⟩) hP hD hS hA (fun H locs hP hD hS => ?_)
      exact rku_i (v := (f_X4_illegal nW nB E a1).1) (F := (f_X4_branch nW nB E a1)) (E1 := (f_X4_illegal nW nB E a1).2) (by unfold f_X4_branch; rw [if_neg c_1, if_pos c_2]; try rfl) X hP hD hS hAe hr hlk dX4_branch_20
set_option maxHeartbeats 4000000 in
set_option maxRecDepth 100000 in
theorem c_X0_set (l : Launch) (D : va_G) (q : Nat → Nat) (ca : Nat → ClassId) (nW nB : Nat) (hk : KOk nW nB) (E : KS) (a1 : Int32) (a2 : Int32) : Mt l yX0_set cX0_set 3 none 0 D (tysK ca) [.ref (q 6), .int a1, .int a2] (cwK q ca nW nB E) (QcV D (cwK q ca nW nB E) (cwK q ca nW nB (f_X0_set nW nB E a1 a2))) := by
  refine ent (own := RX0) rfl (by decide) (Nat.le_of_ble_eq_true rfl) ?_
  intro p e s m below meth c A ls X hr hlk hmn hAe hA hP hD hS hl
  have hx := X.1.1
  have hb := X.1.2.1
  have hl : lv_has ls 3 [(0, .ref (q 6)), (1, .int a1), (2, .int a2)] := hl
  refine lv_iload_n hx hb dX0_set_0 rfl (lv_at hl 1 rfl) ?_
  by_cases c_1 : a1 = (768 : Int32)
  ·
    refine lv_lookup (off := 67) (tgt := 68) hx hb dX0_set_1 (by decide) (by rw [c_1]; decide) (by decide) ?_
    refine lv_aload_n hx hb dX0_set_68 rfl (lv_at hl 0 rfl) ?_
    refine lv_iload_n hx hb dX0_set_69 rfl (lv_at hl 2 rfl) ?_
    refine lv_bipush (v := (8 : Int32)) hx hb dX0_set_70 (by decide) ?_
    refine lv_iand hx hb dX0_set_72 ?_
    refine lv_if_eq (tgt := 80) hx hb dX0_set_73 (by decide) (fun c_2 => ?_) (fun c_2 => ?_)
    ·
      refine lv_iconst (v := (0 : Int32)) hx hb dX0_set_80 (by decide) ?_
      refine pf_X0_7 X hP hD hS false dX0_set_81 (fun H locs hP hD hS => ?_)
      refine lv_aload_n hx hb dX0_set_84 rfl (lv_at hl 0 rfl) ?_
      refine lv_iload_n hx hb dX0_set_85 rfl (lv_at hl 2 rfl) ?_
      refine lv_sipush (v := (128 : Int32)) hx hb dX0_set_86 (by decide) ?_
      refine lv_iand hx hb dX0_set_89 ?_
      refine lv_if_eq (tgt := 97) hx hb dX0_set_90 (by decide) (fun c_3 => ?_) (fun c_3 => ?_)
      ·
        refine lv_iconst (v := (0 : Int32)) hx hb dX0_set_97 (by decide) ?_
        refine pf_X0_13 X hP hD hS false dX0_set_98 (fun H locs hP hD hS => ?_)
        refine lv_goto (tgt := 165) hx hb dX0_set_101 (by decide) ?_
        exact rku_v (F := (f_X0_set nW nB E a1 a2)) (E1 := (kwas_ (kon_ E false) false)) (by unfold f_X0_set; rw [if_pos c_1, if_pos c_2, if_pos c_3]; try rfl) X hP hD hS hAe hr hlk dX0_set_165
      ·
        refine lv_iconst (v := (1 : Int32)) hx hb dX0_set_93 (by decide) ?_
        refine lv_goto (tgt := 98) hx hb dX0_set_94 (by decide) ?_
        refine pf_X0_13 X hP hD hS true dX0_set_98 (fun H locs hP hD hS => ?_)
        refine lv_goto (tgt := 165) hx hb dX0_set_101 (by decide) ?_
        exact rku_v (F := (f_X0_set nW nB E a1 a2)) (E1 := (kwas_ (kon_ E false) true)) (by unfold f_X0_set; rw [if_pos c_1, if_pos c_2, if_neg c_3]; try rfl) X hP hD hS hAe hr hlk dX0_set_165
    ·
      refine lv_iconst (v := (1 : Int32)) hx hb dX0_set_76 (by decide) ?_
      refine lv_goto (tgt := 81) hx hb dX0_set_77 (by decide) ?_
      refine pf_X0_7 X hP hD hS true dX0_set_81 (fun H locs hP hD hS => ?_)
      refine lv_aload_n hx hb dX0_set_84 rfl (lv_at hl 0 rfl) ?_
      refine lv_iload_n hx hb dX0_set_85 rfl (lv_at hl 2 rfl) ?_
      refine lv_sipush (v := (128 : Int32)) hx hb dX0_set_86 (by decide) ?_
      refine lv_iand hx hb dX0_set_89 ?_
      refine lv_if_eq (tgt := 97) hx hb dX0_set_90 (by decide) (fun c_4 => ?_) (fun c_4 => ?_)
      ·
        refine lv_iconst (v := (0 : Int32)) hx hb dX0_set_97 (by decide) ?_
        refine pf_X0_13 X hP hD hS false dX0_set_98 (fun H locs hP hD hS => ?_)
        refine lv_goto (tgt := 165) hx hb dX0_set_101 (by decide) ?_
        exact rku_v (F := (f_X0_set nW nB E a1 a2)) (E1 := (kwas_ (kon_ E true) false)) (by unfold f_X0_set; rw [if_pos c_1, if_neg c_2, if_pos c_4]; try rfl) X hP hD hS hAe hr hlk dX0_set_165
      ·
        refine lv_iconst (v := (1 : Int32)) hx hb dX0_set_93 (by decide) ?_
        refine lv_goto (tgt := 98) hx hb dX0_set_94 (by decide) ?_
        refine pf_X0_13 X hP hD hS true dX0_set_98 (fun H locs hP hD hS => ?_)
        refine lv_goto (tgt := 165) hx hb dX0_set_101 (by decide) ?_
        exact rku_v (F := (f_X0_set nW nB E a1 a2)) (E1 := (kwas_ (kon_ E true) true)) (by unfold f_X0_set; rw [if_pos c_1, if_neg c_2, if_neg c_4]; try rfl) X hP hD hS hAe hr hlk dX0_set_165
  by_cases c_5 : a1 = (772 : Int32)
  ·
    refine lv_lookup (off := 103) (tgt := 104) hx hb dX0_set_1 (by decide) (by rw [c_5]; decide) (by decide) ?_
    refine lv_aload_n hx hb dX0_set_104 rfl (lv_at hl 0 rfl) ?_
    refine lv_iload_n hx hb dX0_set_105 rfl (lv_at hl 2 rfl) ?_
    refine lv_sipush (v := (2184 : Int32)) hx hb dX0_set_106 (by decide) ?_
    refine lv_iand hx hb dX0_set_109 ?_
    refine pf_X0_16 X hP hD hS (a2 &&& (2184 : Int32)) dX0_set_110 (fun H locs hP hD hS => ?_)
    refine lv_goto (tgt := 165) hx hb dX0_set_113 (by decide) ?_
    exact rku_v (F := (f_X0_set nW nB E a1 a2)) (E1 := (kenabled_ E (a2 &&& (2184 : Int32)))) (by unfold f_X0_set; rw [if_neg c_1, if_pos c_5]; try rfl) X hP hD hS hAe hr hlk dX0_set_165
  by_cases c_6 : a1 = (773 : Int32)
  ·
    refine lv_lookup (off := 115) (tgt := 116) hx hb dX0_set_1 (by decide) (by rw [c_6]; decide) (by decide) ?_
    refine lv_aload_n hx hb dX0_set_116 rfl (lv_at hl 0 rfl) ?_
    refine lv_iload_n hx hb dX0_set_117 rfl (lv_at hl 2 rfl) ?_
    refine lv_bipush (v := (-3 : Int32)) hx hb dX0_set_118 (by decide) ?_
    refine lv_iand hx hb dX0_set_120 ?_
    refine pf_X0_20 X hP hD hS (a2 &&& (-3 : Int32)) dX0_set_121 (fun H locs hP hD hS => ?_)
    refine lv_goto (tgt := 165) hx hb dX0_set_124 (by decide) ?_
    exact rku_v (F := (f_X0_set nW nB E a1 a2)) (E1 := (kvector_ E (a2 &&& (-3 : Int32)))) (by unfold f_X0_set; rw [if_neg c_1, if_neg c_5, if_pos c_6]; try rfl) X hP hD hS hAe hr hlk dX0_set_165
  by_cases c_7 : a1 = (832 : Int32)
  ·
    refine lv_lookup (off := 126) (tgt := 127) hx hb dX0_set_1 (by decide) (by rw [c_7]; decide) (by decide) ?_
    refine lv_aload_n hx hb dX0_set_127 rfl (lv_at hl 0 rfl) ?_
    refine lv_iload_n hx hb dX0_set_128 rfl (lv_at hl 2 rfl) ?_
    refine pf_X0_23 X hP hD hS a2 dX0_set_129 (fun H locs hP hD hS => ?_)
    refine lv_goto (tgt := 165) hx hb dX0_set_132 (by decide) ?_
    exact rku_v (F := (f_X0_set nW nB E a1 a2)) (E1 := (kscratch_ E a2)) (by unfold f_X0_set; rw [if_neg c_1, if_neg c_5, if_neg c_6, if_pos c_7]; try rfl) X hP hD hS hAe hr hlk dX0_set_165
  by_cases c_8 : a1 = (833 : Int32)
  ·
    refine lv_lookup (off := 134) (tgt := 135) hx hb dX0_set_1 (by decide) (by rw [c_8]; decide) (by decide) ?_
    refine lv_aload_n hx hb dX0_set_135 rfl (lv_at hl 0 rfl) ?_
    refine lv_iload_n hx hb dX0_set_136 rfl (lv_at hl 2 rfl) ?_
    refine lv_bipush (v := (-4 : Int32)) hx hb dX0_set_137 (by decide) ?_
    refine lv_iand hx hb dX0_set_139 ?_
    refine pf_X0_26 X hP hD hS (a2 &&& (-4 : Int32)) dX0_set_140 (fun H locs hP hD hS => ?_)
    refine lv_goto (tgt := 165) hx hb dX0_set_143 (by decide) ?_
    exact rku_v (F := (f_X0_set nW nB E a1 a2)) (E1 := (kback_ E (a2 &&& (-4 : Int32)))) (by unfold f_X0_set; rw [if_neg c_1, if_neg c_5, if_neg c_6, if_neg c_7, if_pos c_8]; try rfl) X hP hD hS hAe hr hlk dX0_set_165
  by_cases c_9 : a1 = (834 : Int32)
  ·
    refine lv_lookup (off := 145) (tgt := 146) hx hb dX0_set_1 (by decide) (by rw [c_9]; decide) (by decide) ?_
    refine lv_aload_n hx hb dX0_set_146 rfl (lv_at hl 0 rfl) ?_
    refine lv_iload_n hx hb dX0_set_147 rfl (lv_at hl 2 rfl) ?_
    refine lv_ldc (v := (-2147483633 : Int32)) hx hb X.1.2.2.2.1 (X.1.2.2.2.2 _ wd_412) dX0_set_148 ?_
    refine lv_iand hx hb dX0_set_150 ?_
    refine pf_X0_29 X hP hD hS (a2 &&& (-2147483633 : Int32)) dX0_set_151 (fun H locs hP hD hS => ?_)
    refine lv_goto (tgt := 165) hx hb dX0_set_154 (by decide) ?_
    exact rku_v (F := (f_X0_set nW nB E a1 a2)) (E1 := (kcause_ E (a2 &&& (-2147483633 : Int32)))) (by unfold f_X0_set; rw [if_neg c_1, if_neg c_5, if_neg c_6, if_neg c_7, if_neg c_8, if_pos c_9]; try rfl) X hP hD hS hAe hr hlk dX0_set_165
  by_cases c_10 : a1 = (835 : Int32)
  ·
    refine lv_lookup (off := 156) (tgt := 157) hx hb dX0_set_1 (by decide) (by rw [c_10]; decide) (by decide) ?_
    refine lv_aload_n hx hb dX0_set_157 rfl (lv_at hl 0 rfl) ?_
    refine lv_iload_n hx hb dX0_set_158 rfl (lv_at hl 2 rfl) ?_
    refine pf_X0_32 X hP hD hS a2 dX0_set_159 (fun H locs hP hD hS => ?_)
    refine lv_goto (tgt := 165) hx hb dX0_set_162 (by decide) ?_
    exact rku_v (F := (f_X0_set nW nB E a1 a2)) (E1 := (kvalue_ E a2)) (by unfold f_X0_set; rw [if_neg c_1, if_neg c_5, if_neg c_6, if_neg c_7, if_neg c_8, if_neg c_9, if_pos c_10]; try rfl) X hP hD hS hAe hr hlk dX0_set_165
  refine lv_lookup (off := 164) (tgt := 165) hx hb dX0_set_1 (by decide) ((lv_osw c_1 (by decide)).trans ((lv_osw c_5 (by decide)).trans ((lv_osw c_6 (by decide)).trans ((lv_osw c_7 (by decide)).trans ((lv_osw c_8 (by decide)).trans ((lv_osw c_9 (by decide)).trans ((lv_osw c_10 (by decide)).trans rfl))))))) (by decide) ?_
  exact rku_v (F := (f_X0_set nW nB E a1 a2)) (E1 := E) (by unfold f_X0_set; rw [if_neg c_1, if_neg c_5, if_neg c_6, if_neg c_7, if_neg c_8, if_neg c_9, if_neg c_10]; try rfl) X hP hD hS hAe hr hlk dX0_set_165
set_option maxHeartbeats 4000000 in
set_option maxRecDepth 100000 in
theorem c_X4_setD (l : Launch) (D : va_G) (q : Nat → Nat) (ca : Nat → ClassId) (nW nB : Nat) (hk : KOk nW nB) (E : KS) (a1 : Int32) (a2 : Int32) : Mt l yX4_setD cX4_setD 4 none 0 D (tysK ca) [.ref (q 0), .int a1, .int a2] (cwK q ca nW nB E) (QcV D (cwK q ca nW nB E) (cwK q ca nW nB (f_X4_setD nW nB E a1 a2))) := by
  refine ent (own := RX4) rfl (by decide) (Nat.le_of_ble_eq_true rfl) ?_
  intro p e s m below meth c A ls X hr hlk hmn hAe hA hP hD hS hl
  have hx := X.1.1
  have hb := X.1.2.1
  have hl : lv_has ls 4 [(0, .ref (q 0)), (1, .int a1), (2, .int a2)] := hl
  refine lv_iload_n hx hb dX4_setD_0 rfl (lv_at hl 1 rfl) ?_
  refine lv_bipush (v := (7 : Int32)) hx hb dX4_setD_1 (by decide) ?_
  refine lv_iushr (v := (jushr a1 (7 : Int32))) hx hb dX4_setD_3 rfl ?_
  refine lv_bipush (v := (31 : Int32)) hx hb dX4_setD_4 (by decide) ?_
  refine lv_iand hx hb dX4_setD_6 ?_
  refine lv_istore_n (lv' := [(3, .int ((jushr a1 (7 : Int32)) &&& (31 : Int32))), (0, .ref (q 0)), (1, .int a1), (2, .int a2)]) hx hb dX4_setD_7 rfl hl (by decide) rfl (fun ls hl => ?_)
  refine lv_iload_n hx hb dX4_setD_8 rfl (lv_at hl 0 rfl) ?_
  refine lv_if_eq (tgt := 19) hx hb dX4_setD_9 (by decide) (fun c_1 => ?_) (fun c_1 => ?_)
  ·
    exact rku_v (F := (f_X4_setD nW nB E a1 a2)) (E1 := E) (by unfold f_X4_setD; rw [if_pos c_1]; try rfl) X hP hD hS hAe hr hlk dX4_setD_19
  ·
    refine lv_aload_n hx hb dX4_setD_12 rfl (lv_at hl 1 rfl) ?_
    refine gf_X4_49 X hP dX4_setD_13 ?_
    refine lv_iload_n hx hb dX4_setD_16 rfl (lv_at hl 0 rfl) ?_
    refine lv_iload_n hx hb dX4_setD_17 rfl (lv_at hl 3 rfl) ?_
    refine kst_7 X hP hD hS (pk_andIn _ 5 rfl (by decide)) dX4_setD_18 (fun H locs hP hD hS => ?_)
    exact rku_v (F := (f_X4_setD nW nB E a1 a2)) (E1 := (kx_ E (upd (kx E) (((jushr a1 (7 : Int32)) &&& (31 : Int32))).toNatClampNeg a2))) (by unfold f_X4_setD; rw [if_neg c_1]; try rfl) X hP hD hS hAe hr hlk dX4_setD_19
set_option maxHeartbeats 4000000 in
set_option maxRecDepth 100000 in
theorem c_X4_retire (l : Launch) (D : va_G) (q : Nat → Nat) (ca : Nat → ClassId) (nW nB : Nat) (hk : KOk nW nB) (E : KS) (a1 : Int32) (a2 : Int32) : Mt l yX4_retire cX4_retire 3 (some .int) 1 D (tysK ca) [.ref (q 0), .int a1, .int a2] (cwK q ca nW nB E) (QcI D (cwK q ca nW nB E) (cwK q ca nW nB (f_X4_retire nW nB E a1 a2).2) (f_X4_retire nW nB E a1 a2).1) := by
  refine ent (own := RX4) rfl (by decide) (Nat.le_of_ble_eq_true rfl) ?_
  intro p e s m below meth c A ls X hr hlk hmn hAe hA hP hD hS hl
  have hx := X.1.1
  have hb := X.1.2.1
  have hl : lv_has ls 3 [(0, .ref (q 0)), (1, .int a1), (2, .int a2)] := hl
  refine lv_aload_n hx hb dX4_retire_0 rfl (lv_at hl 0 rfl) ?_
  refine lv_iload_n hx hb dX4_retire_1 rfl (lv_at hl 1 rfl) ?_
  refine lv_iload_n hx hb dX4_retire_2 rfl (lv_at hl 2 rfl) ?_
  refine go_v (rn_V (ci := 4) (q0 := 0) X (c_X4_setD l D q ca nW nB hk E a1 a2) ok_X4_setD wd_257 ⟨by decide, by decide⟩ hP hD rfl rfl rfl hl.1 rfl (Nat.le_of_ble_eq_true rfl) dX4_retire_3 ⟨Nat.zero_le _, Nat.zero_le _⟩) hP hD hS hA (fun H locs hP hD hS => ?_)
  refine lv_aload_n hx hb dX4_retire_6 rfl (lv_at hl 0 rfl) ?_
  refine lv_aload_n hx hb dX4_retire_7 rfl (lv_at hl 0 rfl) ?_
  refine gf_X4_56 X hP dX4_retire_8 ?_
  refine lv_iconst (v := (4 : Int32)) hx hb dX4_retire_11 (by decide) ?_
  refine lv_iadd hx hb dX4_retire_12 ?_
  refine go_i (rn_V (ci := 4) (q0 := 0) X (c_X4_retireAt l D q ca nW nB hk (f_X4_setD nW nB E a1 a2) ((kplace (f_X4_setD nW nB E a1 a2)) + (4 : Int32))) ok_X4_retireAt wd_261 ⟨by decide, by decide⟩ hP hD rfl rfl rfl hl.1 rfl (Nat.le_of_ble_eq_true rfl) dX4_retire_13 ⟨Nat.zero_le _, Nat.zero_le _⟩) hP hD hS hA (fun H locs hP hD hS => ?_)
  exact rku_i (v := (f_X4_retireAt nW nB (f_X4_setD nW nB E a1 a2) ((kplace (f_X4_setD nW nB E a1 a2)) + (4 : Int32))).1) (F := (f_X4_retire nW nB E a1 a2)) (E1 := (f_X4_retireAt nW nB (f_X4_setD nW nB E a1 a2) ((kplace (f_X4_setD nW nB E a1 a2)) + (4 : Int32))).2) rfl X hP hD hS hAe hr hlk dX4_retire_16
set_option maxHeartbeats 4000000 in
set_option maxRecDepth 100000 in
theorem c_X4_control (l : Launch) (D : va_G) (q : Nat → Nat) (ca : Nat → ClassId) (nW nB : Nat) (hk : KOk nW nB) (E : KS) (a1 : Int32) : Mt l yX4_control cX4_control 8 (some .int) 3 D (tysK ca) [.ref (q 0), .int a1] (cwK q ca nW nB E) (QcI D (cwK q ca nW nB E) (cwK q ca nW nB (f_X4_control nW nB E a1).2) (f_X4_control nW nB E a1).1) := by
  refine ent (own := RX4) rfl (by decide) (Nat.le_of_ble_eq_true rfl) ?_
  intro p e s m below meth c A ls X hr hlk hmn hAe hA hP hD hS hl
  have hx := X.1.1
  have hb := X.1.2.1
  have hl : lv_has ls 8 [(0, .ref (q 0)), (1, .int a1)] := hl
  refine lv_iload_n hx hb dX4_control_0 rfl (lv_at hl 1 rfl) ?_
  refine go_i (rn_S X (c_X4_f l D _ _ a1) ok_X4_f wd_273 ⟨by decide, by decide⟩ hP hD rfl hl.1 rfl (Nat.le_of_ble_eq_true rfl) dX4_control_1 ⟨Nat.zero_le _, Nat.zero_le _⟩) hP hD hS hA (fun H locs hP hD hS => ?_)
  refine lv_istore_n (lv' := [(2, .int (f_X4_f a1)), (0, .ref (q 0)), (1, .int a1)]) hx hb dX4_control_4 rfl hl (by decide) rfl (fun ls hl => ?_)
  refine lv_iload_n hx hb dX4_control_5 rfl (lv_at hl 0 rfl) ?_
  refine lv_iconst (v := (3 : Int32)) hx hb dX4_control_6 (by decide) ?_
  refine lv_iand hx hb dX4_control_7 ?_
  refine lv_istore_n (lv' := [(3, .int ((f_X4_f a1) &&& (3 : Int32))), (2, .int (f_X4_f a1)), (0, .ref (q 0)), (1, .int a1)]) hx hb dX4_control_8 rfl hl (by decide) rfl (fun ls hl => ?_)
  refine lv_iload_n hx hb dX4_control_9 rfl (lv_at hl 3 rfl) ?_
  refine lv_bipush (v := (20 : Int32)) hx hb dX4_control_10 (by decide) ?_
  refine lv_iushr (v := (jushr a1 (20 : Int32))) hx hb dX4_control_12 rfl ?_
  refine lv_istore (lv' := [(4, .int (jushr a1 (20 : Int32))), (3, .int ((f_X4_f a1) &&& (3 : Int32))), (2, .int (f_X4_f a1)), (0, .ref (q 0)), (1, .int a1)]) hx hb dX4_control_13 hl (by decide) rfl (fun ls hl => ?_)
  refine lv_iload_n hx hb dX4_control_15 rfl (lv_at hl 1 rfl) ?_
  refine lv_iconst (v := (1 : Int32)) hx hb dX4_control_16 (by decide) ?_
  refine lv_icmp_eq (tgt := 27) hx hb dX4_control_17 (by decide) (fun c_1 => ?_) (fun c_1 => ?_)
  ·
    refine lv_iconst (v := (1 : Int32)) hx hb dX4_control_27 (by decide) ?_
    refine lv_goto (tgt := 32) hx hb dX4_control_28 (by decide) ?_
    refine lv_istore (lv' := [(5, .int (1 : Int32)), (4, .int (jushr a1 (20 : Int32))), (3, .int ((f_X4_f a1) &&& (3 : Int32))), (2, .int (f_X4_f a1)), (0, .ref (q 0)), (1, .int a1)]) hx hb dX4_control_32 hl (by decide) rfl (fun ls hl => ?_)
    refine lv_iload_n hx hb dX4_control_34 rfl (lv_at hl 2 rfl) ?_
    refine lv_if_eq (tgt := 59) hx hb dX4_control_35 (by decide) (fun c_2 => ?_) (fun c_2 => ?_)
    ·
      refine lv_aload_n hx hb dX4_control_59 rfl (lv_at hl 4 rfl) ?_
      refine lv_iload_n hx hb dX4_control_60 rfl (lv_at hl 5 rfl) ?_
      refine go_i (rn_V (ci := 4) (q0 := 0) X (c_X4_illegal l D q ca nW nB hk E a1) ok_X4_illegal wd_286 ⟨by decide, by decide⟩ hP hD rfl rfl rfl hl.1 rfl (Nat.le_of_ble_eq_true rfl) dX4_control_61 ⟨Nat.zero_le _, Nat.zero_le _⟩) hP hD hS hA (fun H locs hP hD hS => ?_)
      exact rku_i (v := (f_X4_illegal nW nB E a1).1) (F := (f_X4_control nW nB E a1)) (E1 := (f_X4_illegal nW nB E a1).2) (by unfold f_X4_control; rw [if_pos c_1, if_pos c_2]; try rfl) X hP hD hS hAe hr hlk dX4_control_64
    ·
      refine lv_iload hx hb dX4_control_38 (lv_at hl 1 rfl) ?_
      refine go_i (rn_S X (c_X0_lists l D _ _ (jushr a1 (20 : Int32))) ok_X0_lists wd_400 ⟨by decide, by decide⟩ hP hD rfl hl.1 rfl (Nat.le_of_ble_eq_true rfl) dX4_control_40 ⟨Nat.zero_le _, Nat.zero_le _⟩) hP hD hS hA (fun H locs hP hD hS => ?_)
      refine lv_if_eq (tgt := 59) hx hb dX4_control_43 (by decide) (fun c_3 => ?_) (fun c_3 => ?_)
      ·
        refine lv_aload_n hx hb dX4_control_59 rfl (lv_at hl 4 rfl) ?_
        refine lv_iload_n hx hb dX4_control_60 rfl (lv_at hl 5 rfl) ?_
        refine go_i (rn_V (ci := 4) (q0 := 0) X (c_X4_illegal l D q ca nW nB hk E a1) ok_X4_illegal wd_286 ⟨by decide, by decide⟩ hP hD rfl rfl rfl hl.1 rfl (Nat.le_of_ble_eq_true rfl) dX4_control_61 ⟨Nat.zero_le _, Nat.zero_le _⟩) hP hD hS hA (fun H locs hP hD hS => ?_)
        exact rku_i (v := (f_X4_illegal nW nB E a1).1) (F := (f_X4_control nW nB E a1)) (E1 := (f_X4_illegal nW nB E a1).2) (by unfold f_X4_control; rw [if_pos c_1, if_neg c_2, if_pos c_3]; try rfl) X hP hD hS hAe hr hlk dX4_control_64
      ·
        refine lv_iload hx hb dX4_control_46 (lv_at hl 0 rfl) ?_
        refine lv_if_eq (tgt := 65) hx hb dX4_control_48 (by decide) (fun h => absurd h (by decide)) (fun _ => ?_)
        refine lv_iload hx hb dX4_control_51 (lv_at hl 1 rfl) ?_
        refine lv_sipush (v := (3072 : Int32)) hx hb dX4_control_53 (by decide) ?_
        refine lv_icmp_lt (tgt := 65) hx hb dX4_control_56 (by decide) (fun c_4 => ?_) (fun c_4 => ?_)
        ·
          refine lv_aload_n hx hb dX4_control_65 rfl (lv_at hl 4 rfl) ?_
          refine gf_X4_45 X hP dX4_control_66 ?_
          refine lv_iload hx hb dX4_control_69 (lv_at hl 1 rfl) ?_
          refine lv_aload_n hx hb dX4_control_71 rfl (lv_at hl 4 rfl) ?_
          refine gf_X4_31 X hP dX4_control_72 ?_
          refine go_i (rn_V (ci := 3) (q0 := 3) X (c_X3_isDue l D q ca nW nB hk E ) ok_X3_isDue wd_225 ⟨by decide, by decide⟩ hP hD rfl rfl rfl hl.1 rfl (Nat.le_of_ble_eq_true rfl) dX4_control_75 ⟨Nat.zero_le _, Nat.zero_le _⟩) hP hD hS hA (fun H locs hP hD hS => ?_)
          refine go_i (rn_V (ci := 0) (q0 := 6) X (c_X0_get l D q ca nW nB hk E (jushr a1 (20 : Int32)) (f_X3_isDue nW nB E)) ok_X0_get wd_403 ⟨by decide, by decide⟩ hP hD rfl rfl rfl hl.1 rfl (Nat.le_of_ble_eq_true rfl) dX4_control_78 ⟨Nat.zero_le _, Nat.zero_le _⟩) hP hD hS hA (fun H locs hP hD hS => ?_)
          refine lv_istore (lv' := [(6, .int (f_X0_get nW nB E (jushr a1 (20 : Int32)) (f_X3_isDue nW nB E))), (5, .int (1 : Int32)), (4, .int (jushr a1 (20 : Int32))), (3, .int ((f_X4_f a1) &&& (3 : Int32))), (2, .int (f_X4_f a1)), (0, .ref (q 0)), (1, .int a1)]) hx hb dX4_control_81 hl (by decide) rfl (fun ls hl => ?_)
          refine lv_iload_n hx hb dX4_control_83 rfl (lv_at hl 4 rfl) ?_
          refine lv_iconst (v := (4 : Int32)) hx hb dX4_control_84 (by decide) ?_
          refine lv_icmp_ge (tgt := 96) hx hb dX4_control_85 (by decide) (fun c_5 => ?_) (fun c_5 => ?_)
          ·
            refine lv_iload_n hx hb dX4_control_96 rfl (lv_at hl 6 rfl) ?_
            refine go_i (rn_S X (c_X4_s l D _ _ a1) ok_X4_s wd_280 ⟨by decide, by decide⟩ hP hD rfl hl.1 rfl (Nat.le_of_ble_eq_true rfl) dX4_control_97 ⟨Nat.zero_le _, Nat.zero_le _⟩) hP hD hS hA (fun H locs hP hD hS => ?_)
            refine lv_istore (lv' := [(7, .int (f_X4_s a1)), (6, .int (f_X0_get nW nB E (jushr a1 (20 : Int32)) (f_X3_isDue nW nB E))), (5, .int (1 : Int32)), (4, .int (jushr a1 (20 : Int32))), (3, .int ((f_X4_f a1) &&& (3 : Int32))), (2, .int (f_X4_f a1)), (0, .ref (q 0)), (1, .int a1)]) hx hb dX4_control_100 hl (by decide) rfl (fun ls hl => ?_)
            refine lv_iload hx hb dX4_control_102 (lv_at hl 2 rfl) ?_
            refine lv_if_eq (tgt := 146) hx hb dX4_control_104 (by decide) (fun h => absurd h (by decide)) (fun _ => ?_)
            refine lv_aload_n hx hb dX4_control_107 rfl (lv_at hl 6 rfl) ?_
            refine gf_X4_45 X hP dX4_control_108 ?_
            refine lv_iload hx hb dX4_control_111 (lv_at hl 3 rfl) ?_
            refine lv_iload_n hx hb dX4_control_113 rfl (lv_at hl 4 rfl) ?_
            refine lv_iconst (v := (1 : Int32)) hx hb dX4_control_114 (by decide) ?_
            refine lv_icmp_ne (tgt := 123) hx hb dX4_control_115 (by decide) (fun h => absurd c_1 h) (fun _ => ?_)
            refine lv_iload hx hb dX4_control_118 (lv_at hl 0 rfl) ?_
            refine lv_goto (tgt := 143) hx hb dX4_control_120 (by decide) ?_
            refine go_v (rn_V (ci := 0) (q0 := 6) X (c_X0_set l D q ca nW nB hk E (jushr a1 (20 : Int32)) (f_X4_s a1)) ok_X0_set wd_408 ⟨by decide, by decide⟩ hP hD rfl rfl rfl hl.1 rfl (Nat.le_of_ble_eq_true rfl) dX4_control_143 ⟨Nat.zero_le _, Nat.zero_le _⟩) hP hD hS hA (fun H locs hP hD hS => ?_)
            refine lv_aload_n hx hb dX4_control_146 rfl (lv_at hl 6 rfl) ?_
            refine lv_iload_n hx hb dX4_control_147 rfl (lv_at hl 7 rfl) ?_
            refine lv_iload hx hb dX4_control_148 (lv_at hl 1 rfl) ?_
            refine go_i (rn_V (ci := 4) (q0 := 0) X (c_X4_retire l D q ca nW nB hk (f_X0_set nW nB E (jushr a1 (20 : Int32)) (f_X4_s a1)) a1 (f_X0_get nW nB E (jushr a1 (20 : Int32)) (f_X3_isDue nW nB E))) ok_X4_retire wd_253 ⟨by decide, by decide⟩ hP hD rfl rfl rfl hl.1 rfl (Nat.le_of_ble_eq_true rfl) dX4_control_150 ⟨Nat.zero_le _, Nat.zero_le _⟩) hP hD hS hA (fun H locs hP hD hS => ?_)
            exact rku_i (v := (f_X4_retire nW nB (f_X0_set nW nB E (jushr a1 (20 : Int32)) (f_X4_s a1)) a1 (f_X0_get nW nB E (jushr a1 (20 : Int32)) (f_X3_isDue nW nB E))).1) (F := (f_X4_control nW nB E a1)) (E1 := (f_X4_retire nW nB (f_X0_set nW nB E (jushr a1 (20 : Int32)) (f_X4_s a1)) a1 (f_X0_get nW nB E (jushr a1 (20 : Int32)) (f_X3_isDue nW nB E))).2) (by unfold f_X4_control; rw [if_pos c_1, if_neg c_2, if_neg c_3, if_pos c_4, if_pos c_5]; try rfl) X hP hD hS hAe hr hlk dX4_control_153
          ·
            refine lv_aload_n hx hb dX4_control_88 rfl (lv_at hl 5 rfl) ?_
            refine lv_iload_n hx hb dX4_control_89 rfl (lv_at hl 6 rfl) ?_
            refine go_i (rn_V (ci := 4) (q0 := 0) X (c_X4_a l D q ca nW nB hk E a1) ok_X4_a wd_276 ⟨by decide, by decide⟩ hP hD rfl rfl rfl hl.1 rfl (Nat.le_of_ble_eq_true rfl) dX4_control_90 ⟨Nat.zero_le _, Nat.zero_le _⟩) hP hD hS hA (fun H locs hP hD hS => ?_)
            refine lv_goto (tgt := 100) hx hb dX4_control_93 (by decide) ?_
            refine lv_istore (lv' := [(7, .int (f_X4_a nW nB E a1)), (6, .int (f_X0_get nW nB E (jushr a1 (20 : Int32)) (f_X3_isDue nW nB E))), (5, .int (1 : Int32)), (4, .int (jushr a1 (20 : Int32))), (3, .int ((f_X4_f a1) &&& (3 : Int32))), (2, .int (f_X4_f a1)), (0, .ref (q 0)), (1, .int a1)]) hx hb dX4_control_100 hl (by decide) rfl (fun ls hl => ?_)
            refine lv_iload hx hb dX4_control_102 (lv_at hl 2 rfl) ?_
            refine lv_if_eq (tgt := 146) hx hb dX4_control_104 (by decide) (fun h => absurd h (by decide)) (fun _ => ?_)
            refine lv_aload_n hx hb dX4_control_107 rfl (lv_at hl 6 rfl) ?_
            refine gf_X4_45 X hP dX4_control_108 ?_
            refine lv_iload hx hb dX4_control_111 (lv_at hl 3 rfl) ?_
            refine lv_iload_n hx hb dX4_control_113 rfl (lv_at hl 4 rfl) ?_
            refine lv_iconst (v := (1 : Int32)) hx hb dX4_control_114 (by decide) ?_
            refine lv_icmp_ne (tgt := 123) hx hb dX4_control_115 (by decide) (fun h => absurd c_1 h) (fun _ => ?_)
            refine lv_iload hx hb dX4_control_118 (lv_at hl 0 rfl) ?_
            refine lv_goto (tgt := 143) hx hb dX4_control_120 (by decide) ?_
            refine go_v (rn_V (ci := 0) (q0 := 6) X (c_X0_set l D q ca nW nB hk E (jushr a1 (20 : Int32)) (f_X4_a nW nB E a1)) ok_X0_set wd_408 ⟨by decide, by decide⟩ hP hD rfl rfl rfl hl.1 rfl (Nat.le_of_ble_eq_true rfl) dX4_control_143 ⟨Nat.zero_le _, Nat.zero_le _⟩) hP hD hS hA (fun H locs hP hD hS => ?_)
            refine lv_aload_n hx hb dX4_control_146 rfl (lv_at hl 6 rfl) ?_
            refine lv_iload_n hx hb dX4_control_147 rfl (lv_at hl 7 rfl) ?_
            refine lv_iload hx hb dX4_control_148 (lv_at hl 1 rfl) ?_
            refine go_i (rn_V (ci := 4) (q0 := 0) X (c_X4_retire l D q ca nW nB hk (f_X0_set nW nB E (jushr a1 (20 : Int32)) (f_X4_a nW nB E a1)) a1 (f_X0_get nW nB E (jushr a1 (20 : Int32)) (f_X3_isDue nW nB E))) ok_X4_retire wd_253 ⟨by decide, by decide⟩ hP hD rfl rfl rfl hl.1 rfl (Nat.le_of_ble_eq_true rfl) dX4_control_150 ⟨Nat.zero_le _, Nat.zero_le _⟩) hP hD hS hA (fun H locs hP hD hS => ?_)
            exact rku_i (v := (f_X4_retire nW nB (f_X0_set nW nB E (jushr a1 (20 : Int32)) (f_X4_a nW nB E a1)) a1 (f_X0_get nW nB E (jushr a1 (20 : Int32)) (f_X3_isDue nW nB E))).1) (F := (f_X4_control nW nB E a1)) (E1 := (f_X4_retire nW nB (f_X0_set nW nB E (jushr a1 (20 : Int32)) (f_X4_a nW nB E a1)) a1 (f_X0_get nW nB E (jushr a1 (20 : Int32)) (f_X3_isDue nW nB E))).2) (by unfold f_X4_control; rw [if_pos c_1, if_neg c_2, if_neg c_3, if_pos c_4, if_neg c_5]; try rfl) X hP hD hS hAe hr hlk dX4_control_153
        ·
          refine lv_aload_n hx hb dX4_control_59 rfl (lv_at hl 4 rfl) ?_
          refine lv_iload_n hx hb dX4_control_60 rfl (lv_at hl 5 rfl) ?_
          refine go_i (rn_V (ci := 4) (q0 := 0) X (c_X4_illegal l D q ca nW nB hk E a1) ok_X4_illegal wd_286 ⟨by decide, by decide⟩ hP hD rfl rfl rfl hl.1 rfl (Nat.le_of_ble_eq_true rfl) dX4_control_61 ⟨Nat.zero_le _, Nat.zero_le _⟩) hP hD hS hA (fun H locs hP hD hS => ?_)
          exact rku_i (v := (f_X4_illegal nW nB E a1).1) (F := (f_X4_control nW nB E a1)) (E1 := (f_X4_illegal nW nB E a1).2) (by unfold f_X4_control; rw [if_pos c_1, if_neg c_2, if_neg c_3, if_neg c_4]; try rfl) X hP hD hS hAe hr hlk dX4_control_64
  ·
    refine lv_iload_n hx hb dX4_control_20 rfl (lv_at hl 4 rfl) ?_
    refine go_i (rn_S X (c_X4_s l D _ _ a1) ok_X4_s wd_280 ⟨by decide, by decide⟩ hP hD rfl hl.1 rfl (Nat.le_of_ble_eq_true rfl) dX4_control_21 ⟨Nat.zero_le _, Nat.zero_le _⟩) hP hD hS hA (fun H locs hP hD hS => ?_)
    refine lv_if_eq (tgt := 31) hx hb dX4_control_24 (by decide) (fun c_8 => ?_) (fun c_8 => ?_)
    ·
      refine lv_iconst (v := (0 : Int32)) hx hb dX4_control_31 (by decide) ?_
      refine lv_istore (lv' := [(5, .int (0 : Int32)), (4, .int (jushr a1 (20 : Int32))), (3, .int ((f_X4_f a1) &&& (3 : Int32))), (2, .int (f_X4_f a1)), (0, .ref (q 0)), (1, .int a1)]) hx hb dX4_control_32 hl (by decide) rfl (fun ls hl => ?_)
      refine lv_iload_n hx hb dX4_control_34 rfl (lv_at hl 2 rfl) ?_
      refine lv_if_eq (tgt := 59) hx hb dX4_control_35 (by decide) (fun c_9 => ?_) (fun c_9 => ?_)
      ·
        refine lv_aload_n hx hb dX4_control_59 rfl (lv_at hl 4 rfl) ?_
        refine lv_iload_n hx hb dX4_control_60 rfl (lv_at hl 5 rfl) ?_
        refine go_i (rn_V (ci := 4) (q0 := 0) X (c_X4_illegal l D q ca nW nB hk E a1) ok_X4_illegal wd_286 ⟨by decide, by decide⟩ hP hD rfl rfl rfl hl.1 rfl (Nat.le_of_ble_eq_true rfl) dX4_control_61 ⟨Nat.zero_le _, Nat.zero_le _⟩) hP hD hS hA (fun H locs hP hD hS => ?_)
        exact rku_i (v := (f_X4_illegal nW nB E a1).1) (F := (f_X4_control nW nB E a1)) (E1 := (f_X4_illegal nW nB E a1).2) (by unfold f_X4_control; rw [if_neg c_1, if_pos c_8, if_pos c_9]; try rfl) X hP hD hS hAe hr hlk dX4_control_64
      ·
        refine lv_iload hx hb dX4_control_38 (lv_at hl 1 rfl) ?_
        refine go_i (rn_S X (c_X0_lists l D _ _ (jushr a1 (20 : Int32))) ok_X0_lists wd_400 ⟨by decide, by decide⟩ hP hD rfl hl.1 rfl (Nat.le_of_ble_eq_true rfl) dX4_control_40 ⟨Nat.zero_le _, Nat.zero_le _⟩) hP hD hS hA (fun H locs hP hD hS => ?_)
        refine lv_if_eq (tgt := 59) hx hb dX4_control_43 (by decide) (fun c_10 => ?_) (fun c_10 => ?_)
        ·
          refine lv_aload_n hx hb dX4_control_59 rfl (lv_at hl 4 rfl) ?_
          refine lv_iload_n hx hb dX4_control_60 rfl (lv_at hl 5 rfl) ?_
          refine go_i (rn_V (ci := 4) (q0 := 0) X (c_X4_illegal l D q ca nW nB hk E a1) ok_X4_illegal wd_286 ⟨by decide, by decide⟩ hP hD rfl rfl rfl hl.1 rfl (Nat.le_of_ble_eq_true rfl) dX4_control_61 ⟨Nat.zero_le _, Nat.zero_le _⟩) hP hD hS hA (fun H locs hP hD hS => ?_)
          exact rku_i (v := (f_X4_illegal nW nB E a1).1) (F := (f_X4_control nW nB E a1)) (E1 := (f_X4_illegal nW nB E a1).2) (by unfold f_X4_control; rw [if_neg c_1, if_pos c_8, if_neg c_9, if_pos c_10]; try rfl) X hP hD hS hAe hr hlk dX4_control_64
        ·
          refine lv_iload hx hb dX4_control_46 (lv_at hl 0 rfl) ?_
          refine lv_if_eq (tgt := 65) hx hb dX4_control_48 (by decide) (fun _ => ?_) (fun h => absurd (by decide) h)
          refine lv_aload_n hx hb dX4_control_65 rfl (lv_at hl 4 rfl) ?_
          refine gf_X4_45 X hP dX4_control_66 ?_
          refine lv_iload hx hb dX4_control_69 (lv_at hl 1 rfl) ?_
          refine lv_aload_n hx hb dX4_control_71 rfl (lv_at hl 4 rfl) ?_
          refine gf_X4_31 X hP dX4_control_72 ?_
          refine go_i (rn_V (ci := 3) (q0 := 3) X (c_X3_isDue l D q ca nW nB hk E ) ok_X3_isDue wd_225 ⟨by decide, by decide⟩ hP hD rfl rfl rfl hl.1 rfl (Nat.le_of_ble_eq_true rfl) dX4_control_75 ⟨Nat.zero_le _, Nat.zero_le _⟩) hP hD hS hA (fun H locs hP hD hS => ?_)
          refine go_i (rn_V (ci := 0) (q0 := 6) X (c_X0_get l D q ca nW nB hk E (jushr a1 (20 : Int32)) (f_X3_isDue nW nB E)) ok_X0_get wd_403 ⟨by decide, by decide⟩ hP hD rfl rfl rfl hl.1 rfl (Nat.le_of_ble_eq_true rfl) dX4_control_78 ⟨Nat.zero_le _, Nat.zero_le _⟩) hP hD hS hA (fun H locs hP hD hS => ?_)
          refine lv_istore (lv' := [(6, .int (f_X0_get nW nB E (jushr a1 (20 : Int32)) (f_X3_isDue nW nB E))), (5, .int (0 : Int32)), (4, .int (jushr a1 (20 : Int32))), (3, .int ((f_X4_f a1) &&& (3 : Int32))), (2, .int (f_X4_f a1)), (0, .ref (q 0)), (1, .int a1)]) hx hb dX4_control_81 hl (by decide) rfl (fun ls hl => ?_)
          refine lv_iload_n hx hb dX4_control_83 rfl (lv_at hl 4 rfl) ?_
          refine lv_iconst (v := (4 : Int32)) hx hb dX4_control_84 (by decide) ?_
          refine lv_icmp_ge (tgt := 96) hx hb dX4_control_85 (by decide) (fun c_11 => ?_) (fun c_11 => ?_)
          ·
            refine lv_iload_n hx hb dX4_control_96 rfl (lv_at hl 6 rfl) ?_
            refine go_i (rn_S X (c_X4_s l D _ _ a1) ok_X4_s wd_280 ⟨by decide, by decide⟩ hP hD rfl hl.1 rfl (Nat.le_of_ble_eq_true rfl) dX4_control_97 ⟨Nat.zero_le _, Nat.zero_le _⟩) hP hD hS hA (fun H locs hP hD hS => ?_)
            refine lv_istore (lv' := [(7, .int (f_X4_s a1)), (6, .int (f_X0_get nW nB E (jushr a1 (20 : Int32)) (f_X3_isDue nW nB E))), (5, .int (0 : Int32)), (4, .int (jushr a1 (20 : Int32))), (3, .int ((f_X4_f a1) &&& (3 : Int32))), (2, .int (f_X4_f a1)), (0, .ref (q 0)), (1, .int a1)]) hx hb dX4_control_100 hl (by decide) rfl (fun ls hl => ?_)
            refine lv_iload hx hb dX4_control_102 (lv_at hl 2 rfl) ?_
            refine lv_if_eq (tgt := 146) hx hb dX4_control_104 (by decide) (fun _ => ?_) (fun h => absurd (by decide) h)
            refine lv_aload_n hx hb dX4_control_146 rfl (lv_at hl 6 rfl) ?_
            refine lv_iload_n hx hb dX4_control_147 rfl (lv_at hl 7 rfl) ?_
            refine lv_iload hx hb dX4_control_148 (lv_at hl 1 rfl) ?_
            refine go_i (rn_V (ci := 4) (q0 := 0) X (c_X4_retire l D q ca nW nB hk E a1 (f_X0_get nW nB E (jushr a1 (20 : Int32)) (f_X3_isDue nW nB E))) ok_X4_retire wd_253 ⟨by decide, by decide⟩ hP hD rfl rfl rfl hl.1 rfl (Nat.le_of_ble_eq_true rfl) dX4_control_150 ⟨Nat.zero_le _, Nat.zero_le _⟩) hP hD hS hA (fun H locs hP hD hS => ?_)
            exact rku_i (v := (f_X4_retire nW nB E a1 (f_X0_get nW nB E (jushr a1 (20 : Int32)) (f_X3_isDue nW nB E))).1) (F := (f_X4_control nW nB E a1)) (E1 := (f_X4_retire nW nB E a1 (f_X0_get nW nB E (jushr a1 (20 : Int32)) (f_X3_isDue nW nB E))).2) (by unfold f_X4_control; rw [if_neg c_1, if_pos c_8, if_neg c_9, if_neg c_10, if_pos c_11]; try rfl) X hP hD hS hAe hr hlk dX4_control_153
          ·
            refine lv_aload_n hx hb dX4_control_88 rfl (lv_at hl 5 rfl) ?_
            refine lv_iload_n hx hb dX4_control_89 rfl (lv_at hl 6 rfl) ?_
            refine go_i (rn_V (ci := 4) (q0 := 0) X (c_X4_a l D q ca nW nB hk E a1) ok_X4_a wd_276 ⟨by decide, by decide⟩ hP hD rfl rfl rfl hl.1 rfl (Nat.le_of_ble_eq_true rfl) dX4_control_90 ⟨Nat.zero_le _, Nat.zero_le _⟩) hP hD hS hA (fun H locs hP hD hS => ?_)
            refine lv_goto (tgt := 100) hx hb dX4_control_93 (by decide) ?_
            refine lv_istore (lv' := [(7, .int (f_X4_a nW nB E a1)), (6, .int (f_X0_get nW nB E (jushr a1 (20 : Int32)) (f_X3_isDue nW nB E))), (5, .int (0 : Int32)), (4, .int (jushr a1 (20 : Int32))), (3, .int ((f_X4_f a1) &&& (3 : Int32))), (2, .int (f_X4_f a1)), (0, .ref (q 0)), (1, .int a1)]) hx hb dX4_control_100 hl (by decide) rfl (fun ls hl => ?_)
            refine lv_iload hx hb dX4_control_102 (lv_at hl 2 rfl) ?_
            refine lv_if_eq (tgt := 146) hx hb dX4_control_104 (by decide) (fun _ => ?_) (fun h => absurd (by decide) h)
            refine lv_aload_n hx hb dX4_control_146 rfl (lv_at hl 6 rfl) ?_
            refine lv_iload_n hx hb dX4_control_147 rfl (lv_at hl 7 rfl) ?_
            refine lv_iload hx hb dX4_control_148 (lv_at hl 1 rfl) ?_
            refine go_i (rn_V (ci := 4) (q0 := 0) X (c_X4_retire l D q ca nW nB hk E a1 (f_X0_get nW nB E (jushr a1 (20 : Int32)) (f_X3_isDue nW nB E))) ok_X4_retire wd_253 ⟨by decide, by decide⟩ hP hD rfl rfl rfl hl.1 rfl (Nat.le_of_ble_eq_true rfl) dX4_control_150 ⟨Nat.zero_le _, Nat.zero_le _⟩) hP hD hS hA (fun H locs hP hD hS => ?_)
            exact rku_i (v := (f_X4_retire nW nB E a1 (f_X0_get nW nB E (jushr a1 (20 : Int32)) (f_X3_isDue nW nB E))).1) (F := (f_X4_control nW nB E a1)) (E1 := (f_X4_retire nW nB E a1 (f_X0_get nW nB E (jushr a1 (20 : Int32)) (f_X3_isDue nW nB E))).2) (by unfold f_X4_control; rw [if_neg c_1, if_pos c_8, if_neg c_9, if_neg c_10, if_neg c_11]; try rfl) X hP hD hS hAe hr hlk dX4_control_153
    ·
      refine lv_iconst (v := (1 : Int32)) hx hb dX4_control_27 (by decide) ?_
      refine lv_goto (tgt := 32) hx hb dX4_control_28 (by decide) ?_
      refine lv_istore (lv' := [(5, .int (1 : Int32)), (4, .int (jushr a1 (20 : Int32))), (3, .int ((f_X4_f a1) &&& (3 : Int32))), (2, .int (f_X4_f a1)), (0, .ref (q 0)), (1, .int a1)]) hx hb dX4_control_32 hl (by decide) rfl (fun ls hl => ?_)
      refine lv_iload_n hx hb dX4_control_34 rfl (lv_at hl 2 rfl) ?_
      refine lv_if_eq (tgt := 59) hx hb dX4_control_35 (by decide) (fun c_12 => ?_) (fun c_12 => ?_)
      ·
        refine lv_aload_n hx hb dX4_control_59 rfl (lv_at hl 4 rfl) ?_
        refine lv_iload_n hx hb dX4_control_60 rfl (lv_at hl 5 rfl) ?_
        refine go_i (rn_V (ci := 4) (q0 := 0) X (c_X4_illegal l D q ca nW nB hk E a1) ok_X4_illegal wd_286 ⟨by decide, by decide⟩ hP hD rfl rfl rfl hl.1 rfl (Nat.le_of_ble_eq_true rfl) dX4_control_61 ⟨Nat.zero_le _, Nat.zero_le _⟩) hP hD hS hA (fun H locs hP hD hS => ?_)
        exact rku_i (v := (f_X4_illegal nW nB E a1).1) (F := (f_X4_control nW nB E a1)) (E1 := (f_X4_illegal nW nB E a1).2) (by unfold f_X4_control; rw [if_neg c_1, if_neg c_8, if_pos c_12]; try rfl) X hP hD hS hAe hr hlk dX4_control_64
      ·
        refine lv_iload hx hb dX4_control_38 (lv_at hl 1 rfl) ?_
        refine go_i (rn_S X (c_X0_lists l D _ _ (jushr a1 (20 : Int32))) ok_X0_lists wd_400 ⟨by decide, by decide⟩ hP hD rfl hl.1 rfl (Nat.le_of_ble_eq_true rfl) dX4_control_40 ⟨Nat.zero_le _, Nat.zero_le _⟩) hP hD hS hA (fun H locs hP hD hS => ?_)
        refine lv_if_eq (tgt := 59) hx hb dX4_control_43 (by decide) (fun c_13 => ?_) (fun c_13 => ?_)
        ·
          refine lv_aload_n hx hb dX4_control_59 rfl (lv_at hl 4 rfl) ?_
          refine lv_iload_n hx hb dX4_control_60 rfl (lv_at hl 5 rfl) ?_
          refine go_i (rn_V (ci := 4) (q0 := 0) X (c_X4_illegal l D q ca nW nB hk E a1) ok_X4_illegal wd_286 ⟨by decide, by decide⟩ hP hD rfl rfl rfl hl.1 rfl (Nat.le_of_ble_eq_true rfl) dX4_control_61 ⟨Nat.zero_le _, Nat.zero_le _⟩) hP hD hS hA (fun H locs hP hD hS => ?_)
          exact rku_i (v := (f_X4_illegal nW nB E a1).1) (F := (f_X4_control nW nB E a1)) (E1 := (f_X4_illegal nW nB E a1).2) (by unfold f_X4_control; rw [if_neg c_1, if_neg c_8, if_neg c_12, if_pos c_13]; try rfl) X hP hD hS hAe hr hlk dX4_control_64
        ·
          refine lv_iload hx hb dX4_control_46 (lv_at hl 0 rfl) ?_
          refine lv_if_eq (tgt := 65) hx hb dX4_control_48 (by decide) (fun h => absurd h (by decide)) (fun _ => ?_)
          refine lv_iload hx hb dX4_control_51 (lv_at hl 1 rfl) ?_
          refine lv_sipush (v := (3072 : Int32)) hx hb dX4_control_53 (by decide) ?_
          refine lv_icmp_lt (tgt := 65) hx hb dX4_control_56 (by decide) (fun c_14 => ?_) (fun c_14 => ?_)
          ·
            refine lv_aload_n hx hb dX4_control_65 rfl (lv_at hl 4 rfl) ?_
            refine gf_X4_45 X hP dX4_control_66 ?_
            refine lv_iload hx hb dX4_control_69 (lv_at hl 1 rfl) ?_
            refine lv_aload_n hx hb dX4_control_71 rfl (lv_at hl 4 rfl) ?_
            refine gf_X4_31 X hP dX4_control_72 ?_
            refine go_i (rn_V (ci := 3) (q0 := 3) X (c_X3_isDue l D q ca nW nB hk E ) ok_X3_isDue wd_225 ⟨by decide, by decide⟩ hP hD rfl rfl rfl hl.1 rfl (Nat.le_of_ble_eq_true rfl) dX4_control_75 ⟨Nat.zero_le _, Nat.zero_le _⟩) hP hD hS hA (fun H locs hP hD hS => ?_)
            refine go_i (rn_V (ci := 0) (q0 := 6) X (c_X0_get l D q ca nW nB hk E (jushr a1 (20 : Int32)) (f_X3_isDue nW nB E)) ok_X0_get wd_403 ⟨by decide, by decide⟩ hP hD rfl rfl rfl hl.1 rfl (Nat.le_of_ble_eq_true rfl) dX4_control_78 ⟨Nat.zero_le _, Nat.zero_le _⟩) hP hD hS hA (fun H locs hP hD hS => ?_)
            refine lv_istore (lv' := [(6, .int (f_X0_get nW nB E (jushr a1 (20 : Int32)) (f_X3_isDue nW nB E))), (5, .int (1 : Int32)), (4, .int (jushr a1 (20 : Int32))), (3, .int ((f_X4_f a1) &&& (3 : Int32))), (2, .int (f_X4_f a1)), (0, .ref (q 0)), (1, .int a1)]) hx hb dX4_control_81 hl (by decide) rfl (fun ls hl => ?_)
            refine lv_iload_n hx hb dX4_control_83 rfl (lv_at hl 4 rfl) ?_
            refine lv_iconst (v := (4 : Int32)) hx hb dX4_control_84 (by decide) ?_
            refine lv_icmp_ge (tgt := 96) hx hb dX4_control_85 (by decide) (fun c_15 => ?_) (fun c_15 => ?_)
            ·
              refine lv_iload_n hx hb dX4_control_96 rfl (lv_at hl 6 rfl) ?_
              refine go_i (rn_S X (c_X4_s l D _ _ a1) ok_X4_s wd_280 ⟨by decide, by decide⟩ hP hD rfl hl.1 rfl (Nat.le_of_ble_eq_true rfl) dX4_control_97 ⟨Nat.zero_le _, Nat.zero_le _⟩) hP hD hS hA (fun H locs hP hD hS => ?_)
              refine lv_istore (lv' := [(7, .int (f_X4_s a1)), (6, .int (f_X0_get nW nB E (jushr a1 (20 : Int32)) (f_X3_isDue nW nB E))), (5, .int (1 : Int32)), (4, .int (jushr a1 (20 : Int32))), (3, .int ((f_X4_f a1) &&& (3 : Int32))), (2, .int (f_X4_f a1)), (0, .ref (q 0)), (1, .int a1)]) hx hb dX4_control_100 hl (by decide) rfl (fun ls hl => ?_)
              refine lv_iload hx hb dX4_control_102 (lv_at hl 2 rfl) ?_
              refine lv_if_eq (tgt := 146) hx hb dX4_control_104 (by decide) (fun h => absurd h (by decide)) (fun _ => ?_)
              refine lv_aload_n hx hb dX4_control_107 rfl (lv_at hl 6 rfl) ?_
              refine gf_X4_45 X hP dX4_control_108 ?_
              refine lv_iload hx hb dX4_control_111 (lv_at hl 3 rfl) ?_
              refine lv_iload_n hx hb dX4_control_113 rfl (lv_at hl 4 rfl) ?_
              refine lv_iconst (v := (1 : Int32)) hx hb dX4_control_114 (by decide) ?_
              refine lv_icmp_ne (tgt := 123) hx hb dX4_control_115 (by decide) (fun _ => ?_) (fun h => absurd h c_1)
              refine lv_iload_n hx hb dX4_control_123 rfl (lv_at hl 4 rfl) ?_
              refine lv_iconst (v := (2 : Int32)) hx hb dX4_control_124 (by decide) ?_
              refine lv_icmp_ne (tgt := 136) hx hb dX4_control_125 (by decide) (fun c_17 => ?_) (fun c_17 => ?_)
              ·
                refine lv_iload hx hb dX4_control_136 (lv_at hl 1 rfl) ?_
                refine lv_iload hx hb dX4_control_138 (lv_at hl 0 rfl) ?_
                refine lv_iconst (v := (-1 : Int32)) hx hb dX4_control_140 (by decide) ?_
                refine lv_ixor hx hb dX4_control_141 ?_
                refine lv_iand hx hb dX4_control_142 ?_
                refine go_v (rn_V (ci := 0) (q0 := 6) X (c_X0_set l D q ca nW nB hk E (jushr a1 (20 : Int32)) ((f_X0_get nW nB E (jushr a1 (20 : Int32)) (f_X3_isDue nW nB E)) &&& ((f_X4_s a1) ^^^ (-1 : Int32)))) ok_X0_set wd_408 ⟨by decide, by decide⟩ hP hD rfl rfl rfl hl.1 rfl (Nat.le_of_ble_eq_true rfl) dX4_control_143 ⟨Nat.zero_le _, Nat.zero_le _⟩) hP hD hS hA (fun H locs hP hD hS => ?_)
                refine lv_aload_n hx hb dX4_control_146 rfl (lv_at hl 6 rfl) ?_
                refine lv_iload_n hx hb dX4_control_147 rfl (lv_at hl 7 rfl) ?_
                refine lv_iload hx hb dX4_control_148 (lv_at hl 1 rfl) ?_
                refine go_i (rn_V (ci := 4) (q0 := 0) X (c_X4_retire l D q ca nW nB hk (f_X0_set nW nB E (jushr a1 (20 : Int32)) ((f_X0_get nW nB E (jushr a1 (20 : Int32)) (f_X3_isDue nW nB E)) &&& ((f_X4_s a1) ^^^ (-1 : Int32)))) a1 (f_X0_get nW nB E (jushr a1 (20 : Int32)) (f_X3_isDue nW nB E))) ok_X4_retire wd_253 ⟨by decide, by decide⟩ hP hD rfl rfl rfl hl.1 rfl (Nat.le_of_ble_eq_true rfl) dX4_control_150 ⟨Nat.zero_le _, Nat.zero_le _⟩) hP hD hS hA (fun H locs hP hD hS => ?_)
                exact rku_i (v := (f_X4_retire nW nB (f_X0_set nW nB E (jushr a1 (20 : Int32)) ((f_X0_get nW nB E (jushr a1 (20 : Int32)) (f_X3_isDue nW nB E)) &&& ((f_X4_s a1) ^^^ (-1 : Int32)))) a1 (f_X0_get nW nB E (jushr a1 (20 : Int32)) (f_X3_isDue nW nB E))).1) (F := (f_X4_control nW nB E a1)) (E1 := (f_X4_retire nW nB (f_X0_set nW nB E (jushr a1 (20 : Int32)) ((f_X0_get nW nB E (jushr a1 (20 : Int32)) (f_X3_isDue nW nB E)) &&& ((f_X4_s a1) ^^^ (-1 : Int32)))) a1 (f_X0_get nW nB E (jushr a1 (20 : Int32)) (f_X3_isDue nW nB E))).2) (by unfold f_X4_control; rw [if_neg c_1, if_neg c_8, if_neg c_12, if_neg c_13, if_pos c_14, if_pos c_15, if_neg c_17]; try rfl) X hP hD hS hAe hr hlk dX4_control_153
              ·
                refine lv_iload hx hb dX4_control_128 (lv_at hl 1 rfl) ?_
                refine lv_iload hx hb dX4_control_130 (lv_at hl 0 rfl) ?_
                refine lv_ior hx hb dX4_control_132 ?_
                refine lv_goto (tgt := 143) hx hb dX4_control_133 (by decide) ?_
                refine go_v (rn_V (ci := 0) (q0 := 6) X (c_X0_set l D q ca nW nB hk E (jushr a1 (20 : Int32)) ((f_X0_get nW nB E (jushr a1 (20 : Int32)) (f_X3_isDue nW nB E)) ||| (f_X4_s a1))) ok_X0_set wd_408 ⟨by decide, by decide⟩ hP hD rfl rfl rfl hl.1 rfl (Nat.le_of_ble_eq_true rfl) dX4_control_143 ⟨Nat.zero_le _, Nat.zero_le _⟩) hP hD hS hA (fun H locs hP hD hS => ?_)
                refine lv_aload_n hx hb dX4_control_146 rfl (lv_at hl 6 rfl) ?_
                refine lv_iload_n hx hb dX4_control_147 rfl (lv_at hl 7 rfl) ?_
                refine lv_iload hx hb dX4_control_148 (lv_at hl 1 rfl) ?_
                refine go_i (rn_V (ci := 4) (q0 := 0) X (c_X4_retire l D q ca nW nB hk (f_X0_set nW nB E (jushr a1 (20 : Int32)) ((f_X0_get nW nB E (jushr a1 (20 : Int32)) (f_X3_isDue nW nB E)) ||| (f_X4_s a1))) a1 (f_X0_get nW nB E (jushr a1 (20 : Int32)) (f_X3_isDue nW nB E))) ok_X4_retire wd_253 ⟨by decide, by decide⟩ hP hD rfl rfl rfl hl.1 rfl (Nat.le_of_ble_eq_true rfl) dX4_control_150 ⟨Nat.zero_le _, Nat.zero_le _⟩) hP hD hS hA (fun H locs hP hD hS => ?_)
                exact rku_i (v := (f_X4_retire nW nB (f_X0_set nW nB E (jushr a1 (20 : Int32)) ((f_X0_get nW nB E (jushr a1 (20 : Int32)) (f_X3_isDue nW nB E)) ||| (f_X4_s a1))) a1 (f_X0_get nW nB E (jushr a1 (20 : Int32)) (f_X3_isDue nW nB E))).1) (F := (f_X4_control nW nB E a1)) (E1 := (f_X4_retire nW nB (f_X0_set nW nB E (jushr a1 (20 : Int32)) ((f_X0_get nW nB E (jushr a1 (20 : Int32)) (f_X3_isDue nW nB E)) ||| (f_X4_s a1))) a1 (f_X0_get nW nB E (jushr a1 (20 : Int32)) (f_X3_isDue nW nB E))).2) (by unfold f_X4_control; rw [if_neg c_1, if_neg c_8, if_neg c_12, if_neg c_13, if_pos c_14, if_pos c_15, if_pos c_17]; try rfl) X hP hD hS hAe hr hlk dX4_control_153
            ·
              refine lv_aload_n hx hb dX4_control_88 rfl (lv_at hl 5 rfl) ?_
              refine lv_iload_n hx hb dX4_control_89 rfl (lv_at hl 6 rfl) ?_
              refine go_i (rn_V (ci := 4) (q0 := 0) X (c_X4_a l D q ca nW nB hk E a1) ok_X4_a wd_276 ⟨by decide, by decide⟩ hP hD rfl rfl rfl hl.1 rfl (Nat.le_of_ble_eq_true rfl) dX4_control_90 ⟨Nat.zero_le _, Nat.zero_le _⟩) hP hD hS hA (fun H locs hP hD hS => ?_)
              refine lv_goto (tgt := 100) hx hb dX4_control_93 (by decide) ?_
              refine lv_istore (lv' := [(7, .int (f_X4_a nW nB E a1)), (6, .int (f_X0_get nW nB E (jushr a1 (20 : Int32)) (f_X3_isDue nW nB E))), (5, .int (1 : Int32)), (4, .int (jushr a1 (20 : Int32))), (3, .int ((f_X4_f a1) &&& (3 : Int32))), (2, .int (f_X4_f a1)), (0, .ref (q 0)), (1, .int a1)]) hx hb dX4_control_100 hl (by decide) rfl (fun ls hl => ?_)
              refine lv_iload hx hb dX4_control_102 (lv_at hl 2 rfl) ?_
              refine lv_if_eq (tgt := 146) hx hb dX4_control_104 (by decide) (fun h => absurd h (by decide)) (fun _ => ?_)
              refine lv_aload_n hx hb dX4_control_107 rfl (lv_at hl 6 rfl) ?_
              refine gf_X4_45 X hP dX4_control_108 ?_
              refine lv_iload hx hb dX4_control_111 (lv_at hl 3 rfl) ?_
              refine lv_iload_n hx hb dX4_control_113 rfl (lv_at hl 4 rfl) ?_
              refine lv_iconst (v := (1 : Int32)) hx hb dX4_control_114 (by decide) ?_
              refine lv_icmp_ne (tgt := 123) hx hb dX4_control_115 (by decide) (fun _ => ?_) (fun h => absurd h c_1)
              refine lv_iload_n hx hb dX4_control_123 rfl (lv_at hl 4 rfl) ?_
              refine lv_iconst (v := (2 : Int32)) hx hb dX4_control_124 (by decide) ?_
              refine lv_icmp_ne (tgt := 136) hx hb dX4_control_125 (by decide) (fun c_19 => ?_) (fun c_19 => ?_)
              ·
                refine lv_iload hx hb dX4_control_136 (lv_at hl 1 rfl) ?_
                refine lv_iload hx hb dX4_control_138 (lv_at hl 0 rfl) ?_
                refine lv_iconst (v := (-1 : Int32)) hx hb dX4_control_140 (by decide) ?_
                refine lv_ixor hx hb dX4_control_141 ?_
                refine lv_iand hx hb dX4_control_142 ?_
                refine go_v (rn_V (ci := 0) (q0 := 6) X (c_X0_set l D q ca nW nB hk E (jushr a1 (20 : Int32)) ((f_X0_get nW nB E (jushr a1 (20 : Int32)) (f_X3_isDue nW nB E)) &&& ((f_X4_a nW nB E a1) ^^^ (-1 : Int32)))) ok_X0_set wd_408 ⟨by decide, by decide⟩ hP hD rfl rfl rfl hl.1 rfl (Nat.le_of_ble_eq_true rfl) dX4_control_143 ⟨Nat.zero_le _, Nat.zero_le _⟩) hP hD hS hA (fun H locs hP hD hS => ?_)
                refine lv_aload_n hx hb dX4_control_146 rfl (lv_at hl 6 rfl) ?_
                refine lv_iload_n hx hb dX4_control_147 rfl (lv_at hl 7 rfl) ?_
                refine lv_iload hx hb dX4_control_148 (lv_at hl 1 rfl) ?_
                refine go_i (rn_V (ci := 4) (q0 := 0) X (c_X4_retire l D q ca nW nB hk (f_X0_set nW nB E (jushr a1 (20 : Int32)) ((f_X0_get nW nB E (jushr a1 (20 : Int32)) (f_X3_isDue nW nB E)) &&& ((f_X4_a nW nB E a1) ^^^ (-1 : Int32)))) a1 (f_X0_get nW nB E (jushr a1 (20 : Int32)) (f_X3_isDue nW nB E))) ok_X4_retire wd_253 ⟨by decide, by decide⟩ hP hD rfl rfl rfl hl.1 rfl (Nat.le_of_ble_eq_true rfl) dX4_control_150 ⟨Nat.zero_le _, Nat.zero_le _⟩) hP hD hS hA (fun H locs hP hD hS => ?_)
                exact rku_i (v := (f_X4_retire nW nB (f_X0_set nW nB E (jushr a1 (20 : Int32)) ((f_X0_get nW nB E (jushr a1 (20 : Int32)) (f_X3_isDue nW nB E)) &&& ((f_X4_a nW nB E a1) ^^^ (-1 : Int32)))) a1 (f_X0_get nW nB E (jushr a1 (20 : Int32)) (f_X3_isDue nW nB E))).1) (F := (f_X4_control nW nB E a1)) (E1 := (f_X4_retire nW nB (f_X0_set nW nB E (jushr a1 (20 : Int32)) ((f_X0_get nW nB E (jushr a1 (20 : Int32)) (f_X3_isDue nW nB E)) &&& ((f_X4_a nW nB E a1) ^^^ (-1 : Int32)))) a1 (f_X0_get nW nB E (jushr a1 (20 : Int32)) (f_X3_isDue nW nB E))).2) (by unfold f_X4_control; rw [if_neg c_1, if_neg c_8, if_neg c_12, if_neg c_13, if_pos c_14, if_neg c_15, if_neg c_19]; try rfl) X hP hD hS hAe hr hlk dX4_control_153
              ·
                refine lv_iload hx hb dX4_control_128 (lv_at hl 1 rfl) ?_
                refine lv_iload hx hb dX4_control_130 (lv_at hl 0 rfl) ?_
                refine lv_ior hx hb dX4_control_132 ?_
                refine lv_goto (tgt := 143) hx hb dX4_control_133 (by decide) ?_
                refine go_v (rn_V (ci := 0) (q0 := 6) X (c_X0_set l D q ca nW nB hk E (jushr a1 (20 : Int32)) ((f_X0_get nW nB E (jushr a1 (20 : Int32)) (f_X3_isDue nW nB E)) ||| (f_X4_a nW nB E a1))) ok_X0_set wd_408 ⟨by decide, by decide⟩ hP hD rfl rfl rfl hl.1 rfl (Nat.le_of_ble_eq_true rfl) dX4_control_143 ⟨Nat.zero_le _, Nat.zero_le _⟩) hP hD hS hA (fun H locs hP hD hS => ?_)
                refine lv_aload_n hx hb dX4_control_146 rfl (lv_at hl 6 rfl) ?_
                refine lv_iload_n hx hb dX4_control_147 rfl (lv_at hl 7 rfl) ?_
                refine lv_iload hx hb dX4_control_148 (lv_at hl 1 rfl) ?_
                refine go_i (rn_V (ci := 4) (q0 := 0) X (c_X4_retire l D q ca nW nB hk (f_X0_set nW nB E (jushr a1 (20 : Int32)) ((f_X0_get nW nB E (jushr a1 (20 : Int32)) (f_X3_isDue nW nB E)) ||| (f_X4_a nW nB E a1))) a1 (f_X0_get nW nB E (jushr a1 (20 : Int32)) (f_X3_isDue nW nB E))) ok_X4_retire wd_253 ⟨by decide, by decide⟩ hP hD rfl rfl rfl hl.1 rfl (Nat.le_of_ble_eq_true rfl) dX4_control_150 ⟨Nat.zero_le _, Nat.zero_le _⟩) hP hD hS hA (fun H locs hP hD hS => ?_)
                exact rku_i (v := (f_X4_retire nW nB (f_X0_set nW nB E (jushr a1 (20 : Int32)) ((f_X0_get nW nB E (jushr a1 (20 : Int32)) (f_X3_isDue nW nB E)) ||| (f_X4_a nW nB E a1))) a1 (f_X0_get nW nB E (jushr a1 (20 : Int32)) (f_X3_isDue nW nB E))).1) (F := (f_X4_control nW nB E a1)) (E1 := (f_X4_retire nW nB (f_X0_set nW nB E (jushr a1 (20 : Int32)) ((f_X0_get nW nB E (jushr a1 (20 : Int32)) (f_X3_isDue nW nB E)) ||| (f_X4_a nW nB E a1))) a1 (f_X0_get nW nB E (jushr a1 (20 : Int32)) (f_X3_isDue nW nB E))).2) (by unfold f_X4_control; rw [if_neg c_1, if_neg c_8, if_neg c_12, if_neg c_13, if_pos c_14, if_neg c_15, if_pos c_19]; try rfl) X hP hD hS hAe hr hlk dX4_control_153
          ·
            refine lv_aload_n hx hb dX4_control_59 rfl (lv_at hl 4 rfl) ?_
            refine lv_iload_n hx hb dX4_control_60 rfl (lv_at hl 5 rfl) ?_
            refine go_i (rn_V (ci := 4) (q0 := 0) X (c_X4_illegal l D q ca nW nB hk E a1) ok_X4_illegal wd_286 ⟨by decide, by decide⟩ hP hD rfl rfl rfl hl.1 rfl (Nat.le_of_ble_eq_true rfl) dX4_control_61 ⟨Nat.zero_le _, Nat.zero_le _⟩) hP hD hS hA (fun H locs hP hD hS => ?_)
            exact rku_i (v := (f_X4_illegal nW nB E a1).1) (F := (f_X4_control nW nB E a1)) (E1 := (f_X4_illegal nW nB E a1).2) (by unfold f_X4_control; rw [if_neg c_1, if_neg c_8, if_neg c_12, if_neg c_13, if_neg c_14]; try rfl) X hP hD hS hAe hr hlk dX4_control_64
