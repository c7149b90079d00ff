/-! contracts: X5_reckon X5_reckonBy X5_multiplied X5_reckonTwo X5_mixed X5_store X5_system -/
set_option maxHeartbeats 4000000 in
set_option maxRecDepth 100000 in
theorem c_X5_reckon (l : Launch) (D : va_G) (q : Nat → Nat) (ca : Nat → ClassId) (sz mo : Int32) (hk : MOk sz mo) (E : MS) (a1 : Int32) (a2 : Int32) : Mt l yX5_reckon cX5_reckon 3 (some .int) 1 D (tysM ca) [.ref (q 0), .int a1, .int a2] (cwM q ca sz mo E) (QcI D (cwM q ca sz mo E) (cwM q ca sz mo E) (f_X5_reckon sz mo E a1 a2)) := by
  refine ent (own := RX5) rfl (by decide) (Nat.le_of_ble_eq_true rfl) ?_
  intro p e s m below meth c A ls X hr hlk hmn hAe hA hP hD hS hl
  have hx := X.1.1
  have hb := X.1.2.1
  have hl : lv_has ls 3 [(0, .ref (q 0)), (1, .int a1), (2, .int a2)] := hl
  refine lv_aload_n hx hb dX5_reckon_0 rfl (lv_at hl 0 rfl) ?_
  refine gf_X5_127 X hP dX5_reckon_1 ?_
  by_cases c_1 : (mf E) = (0 : Int32)
  ·
    refine lv_tableIn (off := 44) (tgt := 48) hx hb dX5_reckon_4 (by rw [c_1]; decide) (by rw [c_1]; decide) (by rw [c_1]; decide) (by decide) ?_
    refine lv_iload_n hx hb dX5_reckon_48 rfl (lv_at hl 1 rfl) ?_
    refine lv_iload_n hx hb dX5_reckon_49 rfl (lv_at hl 2 rfl) ?_
    refine lv_iadd hx hb dX5_reckon_50 ?_
    exact rg_i (v := (a1 + a2)) (F := (f_X5_reckon sz mo E a1 a2)) (by unfold f_X5_reckon; rw [if_pos c_1]; try rfl) X hP hD hS hAe hr hlk dX5_reckon_51
  by_cases c_2 : (mf E) = (1 : Int32)
  ·
    refine lv_tableIn (off := 48) (tgt := 52) hx hb dX5_reckon_4 (by rw [c_2]; decide) (by rw [c_2]; decide) (by rw [c_2]; decide) (by decide) ?_
    refine lv_iload_n hx hb dX5_reckon_52 rfl (lv_at hl 1 rfl) ?_
    refine lv_iload_n hx hb dX5_reckon_53 rfl (lv_at hl 2 rfl) ?_
    refine lv_bipush (v := (31 : Int32)) hx hb dX5_reckon_54 (by decide) ?_
    refine lv_iand hx hb dX5_reckon_56 ?_
    refine lv_ishl hx hb dX5_reckon_57 ?_
    exact rg_i (v := (a1 <<< ((a2 &&& (31 : Int32)) &&& 31))) (F := (f_X5_reckon sz mo E a1 a2)) (by unfold f_X5_reckon; rw [if_neg c_1, if_pos c_2]; try rfl) X hP hD hS hAe hr hlk dX5_reckon_58
  by_cases c_3 : (mf E) = (2 : Int32)
  ·
    refine lv_tableIn (off := 55) (tgt := 59) hx hb dX5_reckon_4 (by rw [c_3]; decide) (by rw [c_3]; decide) (by rw [c_3]; decide) (by decide) ?_
    refine lv_iload_n hx hb dX5_reckon_59 rfl (lv_at hl 1 rfl) ?_
    refine lv_iload_n hx hb dX5_reckon_60 rfl (lv_at hl 2 rfl) ?_
    refine lv_icmp_ge (tgt := 68) hx hb dX5_reckon_61 (by decide) (fun c_4 => ?_) (fun c_4 => ?_)
    ·
      refine lv_iconst (v := (0 : Int32)) hx hb dX5_reckon_68 (by decide) ?_
      exact rg_i (v := (0 : Int32)) (F := (f_X5_reckon sz mo E a1 a2)) (by unfold f_X5_reckon; rw [if_neg c_1, if_neg c_2, if_pos c_3, if_pos c_4]; try rfl) X hP hD hS hAe hr hlk dX5_reckon_69
    ·
      refine lv_iconst (v := (1 : Int32)) hx hb dX5_reckon_64 (by decide) ?_
      refine lv_goto (tgt := 69) hx hb dX5_reckon_65 (by decide) ?_
      exact rg_i (v := (1 : Int32)) (F := (f_X5_reckon sz mo E a1 a2)) (by unfold f_X5_reckon; rw [if_neg c_1, if_neg c_2, if_pos c_3, if_neg c_4]; try rfl) X hP hD hS hAe hr hlk dX5_reckon_69
  by_cases c_5 : (mf E) = (3 : Int32)
  ·
    refine lv_tableIn (off := 66) (tgt := 70) hx hb dX5_reckon_4 (by rw [c_5]; decide) (by rw [c_5]; decide) (by rw [c_5]; decide) (by decide) ?_
    refine lv_iload_n hx hb dX5_reckon_70 rfl (lv_at hl 1 rfl) ?_
    refine lv_iload_n hx hb dX5_reckon_71 rfl (lv_at hl 2 rfl) ?_
    refine go_i (rn_S X (c_X5_isBelow l D _ _ a1 a2) ok_X5_isBelow wd_629 ⟨by decide, by decide⟩ hP hD rfl hl.1 rfl (Nat.le_of_ble_eq_true rfl) dX5_reckon_72 ⟨Nat.zero_le _, Nat.zero_le _⟩) hP hD hS hA (fun H locs hP hD hS => ?_)
    refine lv_if_eq (tgt := 82) hx hb dX5_reckon_75 (by decide) (fun c_6 => ?_) (fun c_6 => ?_)
    ·
      refine lv_iconst (v := (0 : Int32)) hx hb dX5_reckon_82 (by decide) ?_
      exact rg_i (v := (0 : Int32)) (F := (f_X5_reckon sz mo E a1 a2)) (by unfold f_X5_reckon; rw [if_neg c_1, if_neg c_2, if_neg c_3, if_pos c_5, if_pos c_6]; try rfl) X hP hD hS hAe hr hlk dX5_reckon_83
    ·
      refine lv_iconst (v := (1 : Int32)) hx hb dX5_reckon_78 (by decide) ?_
      refine lv_goto (tgt := 83) hx hb dX5_reckon_79 (by decide) ?_
      exact rg_i (v := (1 : Int32)) (F := (f_X5_reckon sz mo E a1 a2)) (by unfold f_X5_reckon; rw [if_neg c_1, if_neg c_2, if_neg c_3, if_pos c_5, if_neg c_6]; try rfl) X hP hD hS hAe hr hlk dX5_reckon_83
  by_cases c_7 : (mf E) = (4 : Int32)
  ·
    refine lv_tableIn (off := 80) (tgt := 84) hx hb dX5_reckon_4 (by rw [c_7]; decide) (by rw [c_7]; decide) (by rw [c_7]; decide) (by decide) ?_
    refine lv_iload_n hx hb dX5_reckon_84 rfl (lv_at hl 1 rfl) ?_
    refine lv_iload_n hx hb dX5_reckon_85 rfl (lv_at hl 2 rfl) ?_
    refine lv_ixor hx hb dX5_reckon_86 ?_
    exact rg_i (v := (a1 ^^^ a2)) (F := (f_X5_reckon sz mo E a1 a2)) (by unfold f_X5_reckon; rw [if_neg c_1, if_neg c_2, if_neg c_3, if_neg c_5, if_pos c_7]; try rfl) X hP hD hS hAe hr hlk dX5_reckon_87
  by_cases c_8 : (mf E) = (5 : Int32)
  ·
    refine lv_tableIn (off := 84) (tgt := 88) hx hb dX5_reckon_4 (by rw [c_8]; decide) (by rw [c_8]; decide) (by rw [c_8]; decide) (by decide) ?_
    refine lv_iload_n hx hb dX5_reckon_88 rfl (lv_at hl 1 rfl) ?_
    refine lv_iload_n hx hb dX5_reckon_89 rfl (lv_at hl 2 rfl) ?_
    refine lv_bipush (v := (31 : Int32)) hx hb dX5_reckon_90 (by decide) ?_
    refine lv_iand hx hb dX5_reckon_92 ?_
    refine lv_iushr (v := (jushr a1 (a2 &&& (31 : Int32)))) hx hb dX5_reckon_93 rfl ?_
    exact rg_i (v := (jushr a1 (a2 &&& (31 : Int32)))) (F := (f_X5_reckon sz mo E a1 a2)) (by unfold f_X5_reckon; rw [if_neg c_1, if_neg c_2, if_neg c_3, if_neg c_5, if_neg c_7, if_pos c_8]; try rfl) X hP hD hS hAe hr hlk dX5_reckon_94
  by_cases c_9 : (mf E) = (6 : Int32)
  ·
    refine lv_tableIn (off := 91) (tgt := 95) hx hb dX5_reckon_4 (by rw [c_9]; decide) (by rw [c_9]; decide) (by rw [c_9]; decide) (by decide) ?_
    refine lv_iload_n hx hb dX5_reckon_95 rfl (lv_at hl 1 rfl) ?_
    refine lv_iload_n hx hb dX5_reckon_96 rfl (lv_at hl 2 rfl) ?_
    refine lv_ior hx hb dX5_reckon_97 ?_
    exact rg_i (v := (a1 ||| a2)) (F := (f_X5_reckon sz mo E a1 a2)) (by unfold f_X5_reckon; rw [if_neg c_1, if_neg c_2, if_neg c_3, if_neg c_5, if_neg c_7, if_neg c_8, if_pos c_9]; try rfl) X hP hD hS hAe hr hlk dX5_reckon_98
  refine lv_tableOut (tgt := 99) hx hb dX5_reckon_4 (by have := lv_neT (a := 0) c_1 (by decide); have := lv_neT (a := 1) c_2 (by decide); have := lv_neT (a := 2) c_3 (by decide); have := lv_neT (a := 3) c_5 (by decide); have := lv_neT (a := 4) c_7 (by decide); have := lv_neT (a := 5) c_8 (by decide); have := lv_neT (a := 6) c_9 (by decide); omega) (by decide) ?_
  refine lv_iload_n hx hb dX5_reckon_99 rfl (lv_at hl 1 rfl) ?_
  refine lv_iload_n hx hb dX5_reckon_100 rfl (lv_at hl 2 rfl) ?_
  refine lv_iand hx hb dX5_reckon_101 ?_
  exact rg_i (v := (a1 &&& a2)) (F := (f_X5_reckon sz mo E a1 a2)) (by unfold f_X5_reckon; rw [if_neg c_1, if_neg c_2, if_neg c_3, if_neg c_5, if_neg c_7, if_neg c_8, if_neg c_9]; try rfl) X hP hD hS hAe hr hlk dX5_reckon_102
set_option maxHeartbeats 4000000 in
set_option maxRecDepth 100000 in
theorem c_X5_reckonBy (l : Launch) (D : va_G) (q : Nat → Nat) (ca : Nat → ClassId) (sz mo : Int32) (hk : MOk sz mo) (E : MS) (a1 : Int32) (hd : mDec E) : Mt l yX5_reckonBy cX5_reckonBy 3 (some .int) 2 D (tysM ca) [.ref (q 0), .int a1] (cwM q ca sz mo E) (QcI D (cwM q ca sz mo E) (cwM q ca sz mo (f_X5_reckonBy sz mo E a1).2) (f_X5_reckonBy sz mo E a1).1) := by
  refine ent (own := RX5) rfl (by decide) (Nat.le_of_ble_eq_true rfl) ?_
  intro p e s m below meth c A ls X hr hlk hmn hAe hA hP hD hS hl
  have hx := X.1.1
  have hb := X.1.2.1
  have hl : lv_has ls 3 [(0, .ref (q 0)), (1, .int a1)] := hl
  refine lv_aload_n hx hb dX5_reckonBy_0 rfl (lv_at hl 0 rfl) ?_
  refine gf_X5_14 X hP dX5_reckonBy_1 ?_
  refine lv_aload_n hx hb dX5_reckonBy_4 rfl (lv_at hl 0 rfl) ?_
  refine gf_X5_130 X hP dX5_reckonBy_5 ?_
  refine mld_2 X hP hd.2.1 dX5_reckonBy_8 ?_
  refine lv_istore_n (lv' := [(2, .int (mx E ((ms E)).toNatClampNeg)), (0, .ref (q 0)), (1, .int a1)]) hx hb dX5_reckonBy_9 rfl hl (by decide) rfl (fun ls hl => ?_)
  refine lv_aload_n hx hb dX5_reckonBy_10 rfl (lv_at hl 1 rfl) ?_
  refine gf_X5_127 X hP dX5_reckonBy_11 ?_
  refine lv_iconst (v := (1 : Int32)) hx hb dX5_reckonBy_14 (by decide) ?_
  refine lv_icmp_ne (tgt := 43) hx hb dX5_reckonBy_15 (by decide) (fun c_1 => ?_) (fun c_1 => ?_)
  ·
    refine lv_aload_n hx hb dX5_reckonBy_43 rfl (lv_at hl 1 rfl) ?_
    refine gf_X5_127 X hP dX5_reckonBy_44 ?_
    refine lv_iconst (v := (5 : Int32)) hx hb dX5_reckonBy_47 (by decide) ?_
    refine lv_icmp_ne (tgt := 98) hx hb dX5_reckonBy_48 (by decide) (fun c_2 => ?_) (fun c_2 => ?_)
    ·
      refine lv_aload_n hx hb dX5_reckonBy_98 rfl (lv_at hl 1 rfl) ?_
      refine lv_aload_n hx hb dX5_reckonBy_99 rfl (lv_at hl 1 rfl) ?_
      refine lv_iload_n hx hb dX5_reckonBy_100 rfl (lv_at hl 0 rfl) ?_
      refine lv_iload_n hx hb dX5_reckonBy_101 rfl (lv_at hl 2 rfl) ?_
      refine go_i (rn_V (ci := 5) (q0 := 0) X (c_X5_reckon l D q ca sz mo hk E (mx E ((ms E)).toNatClampNeg) a1) ok_X5_reckon wd_660 ⟨by decide, by decide⟩ hP hD rfl rfl rfl hl.1 rfl (Nat.le_of_ble_eq_true rfl) dX5_reckonBy_102 ⟨Nat.zero_le _, Nat.zero_le _⟩) hP hD hS hA (fun H locs hP hD hS => ?_)
      refine go_i (rn_V (ci := 5) (q0 := 0) X (c_X5_become l D q ca sz mo hk E (f_X5_reckon sz mo E (mx E ((ms E)).toNatClampNeg) a1) hd.1) ok_X5_become wd_608 ⟨by decide, by decide⟩ hP hD rfl rfl rfl hl.1 rfl (Nat.le_of_ble_eq_true rfl) dX5_reckonBy_105 ⟨Nat.zero_le _, Nat.zero_le _⟩) hP hD hS hA (fun H locs hP hD hS => ?_)
      exact rmu_i (v := (f_X5_become sz mo E (f_X5_reckon sz mo E (mx E ((ms E)).toNatClampNeg) a1)).1) (F := (f_X5_reckonBy sz mo E a1)) (E1 := (f_X5_become sz mo E (f_X5_reckon sz mo E (mx E ((ms E)).toNatClampNeg) a1)).2) (by unfold f_X5_reckonBy; rw [if_neg c_1, if_neg c_2]; try rfl) X hP hD hS hAe hr hlk dX5_reckonBy_108
    ·
      refine lv_aload_n hx hb dX5_reckonBy_51 rfl (lv_at hl 1 rfl) ?_
      refine gf_X5_136 X hP dX5_reckonBy_52 ?_
      refine lv_if_ne (tgt := 71) hx hb dX5_reckonBy_55 (by decide) (fun c_3 => ?_) (fun c_3 => ?_)
      ·
        refine lv_aload_n hx hb dX5_reckonBy_71 rfl (lv_at hl 1 rfl) ?_
        refine gf_X5_136 X hP dX5_reckonBy_72 ?_
        refine lv_bipush (v := (32 : Int32)) hx hb dX5_reckonBy_75 (by decide) ?_
        refine lv_icmp_ne (tgt := 93) hx hb dX5_reckonBy_77 (by decide) (fun c_4 => ?_) (fun c_4 => ?_)
        ·
          refine lv_aload_n hx hb dX5_reckonBy_93 rfl (lv_at hl 1 rfl) ?_
          refine go_i (rn_V (ci := 5) (q0 := 0) X (c_X5_illegal l D q ca sz mo hk E ) ok_X5_illegal wd_621 ⟨by decide, by decide⟩ hP hD rfl rfl rfl hl.1 rfl (Nat.le_of_ble_eq_true rfl) dX5_reckonBy_94 ⟨Nat.zero_le _, Nat.zero_le _⟩) hP hD hS hA (fun H locs hP hD hS => ?_)
          exact rmu_i (v := (f_X5_illegal sz mo E).1) (F := (f_X5_reckonBy sz mo E a1)) (E1 := (f_X5_illegal sz mo E).2) (by unfold f_X5_reckonBy; rw [if_neg c_1, if_pos c_2, if_neg c_3, if_neg c_4]; try rfl) X hP hD hS hAe hr hlk dX5_reckonBy_97
        ·
          refine lv_aload_n hx hb dX5_reckonBy_80 rfl (lv_at hl 1 rfl) ?_
          refine lv_iload_n hx hb dX5_reckonBy_81 rfl (lv_at hl 0 rfl) ?_
          refine lv_aload_n hx hb dX5_reckonBy_82 rfl (lv_at hl 1 rfl) ?_
          refine gf_X5_133 X hP dX5_reckonBy_83 ?_
          refine lv_ishr hx hb dX5_reckonBy_86 ?_
          refine go_i (rn_V (ci := 5) (q0 := 0) X (c_X5_become l D q ca sz mo hk E ((mx E ((ms E)).toNatClampNeg) >>> ((mt E) &&& 31)) hd.1) ok_X5_become wd_608 ⟨by decide, by decide⟩ hP hD rfl rfl rfl hl.1 rfl (Nat.le_of_ble_eq_true rfl) dX5_reckonBy_87 ⟨Nat.zero_le _, Nat.zero_le _⟩) hP hD hS hA (fun H locs hP hD hS => ?_)
          refine lv_goto (tgt := 97) hx hb dX5_reckonBy_90 (by decide) ?_
          exact rmu_i (v := (f_X5_become sz mo E ((mx E ((ms E)).toNatClampNeg) >>> ((mt E) &&& 31))).1) (F := (f_X5_reckonBy sz mo E a1)) (E1 := (f_X5_become sz mo E ((mx E ((ms E)).toNatClampNeg) >>> ((mt E) &&& 31))).2) (by unfold f_X5_reckonBy; rw [if_neg c_1, if_pos c_2, if_neg c_3, if_pos c_4]; try rfl) X hP hD hS hAe hr hlk dX5_reckonBy_97
      ·
        refine lv_aload_n hx hb dX5_reckonBy_58 rfl (lv_at hl 1 rfl) ?_
        refine lv_iload_n hx hb dX5_reckonBy_59 rfl (lv_at hl 0 rfl) ?_
        refine lv_aload_n hx hb dX5_reckonBy_60 rfl (lv_at hl 1 rfl) ?_
        refine gf_X5_133 X hP dX5_reckonBy_61 ?_
        refine lv_iushr (v := (jushr (mx E ((ms E)).toNatClampNeg) (mt E))) hx hb dX5_reckonBy_64 rfl ?_
        refine go_i (rn_V (ci := 5) (q0 := 0) X (c_X5_become l D q ca sz mo hk E (jushr (mx E ((ms E)).toNatClampNeg) (mt E)) hd.1) ok_X5_become wd_608 ⟨by decide, by decide⟩ hP hD rfl rfl rfl hl.1 rfl (Nat.le_of_ble_eq_true rfl) dX5_reckonBy_65 ⟨Nat.zero_le _, Nat.zero_le _⟩) hP hD hS hA (fun H locs hP hD hS => ?_)
        refine lv_goto (tgt := 97) hx hb dX5_reckonBy_68 (by decide) ?_
        exact rmu_i (v := (f_X5_become sz mo E (jushr (mx E ((ms E)).toNatClampNeg) (mt E))).1) (F := (f_X5_reckonBy sz mo E a1)) (E1 := (f_X5_become sz mo E (jushr (mx E ((ms E)).toNatClampNeg) (mt E))).2) (by unfold f_X5_reckonBy; rw [if_neg c_1, if_pos c_2, if_pos c_3]; try rfl) X hP hD hS hAe hr hlk dX5_reckonBy_97
  ·
    refine lv_aload_n hx hb dX5_reckonBy_18 rfl (lv_at hl 1 rfl) ?_
    refine gf_X5_136 X hP dX5_reckonBy_19 ?_
    refine lv_if_ne (tgt := 38) hx hb dX5_reckonBy_22 (by decide) (fun c_5 => ?_) (fun c_5 => ?_)
    ·
      refine lv_aload_n hx hb dX5_reckonBy_38 rfl (lv_at hl 1 rfl) ?_
      refine go_i (rn_V (ci := 5) (q0 := 0) X (c_X5_illegal l D q ca sz mo hk E ) ok_X5_illegal wd_621 ⟨by decide, by decide⟩ hP hD rfl rfl rfl hl.1 rfl (Nat.le_of_ble_eq_true rfl) dX5_reckonBy_39 ⟨Nat.zero_le _, Nat.zero_le _⟩) hP hD hS hA (fun H locs hP hD hS => ?_)
      exact rmu_i (v := (f_X5_illegal sz mo E).1) (F := (f_X5_reckonBy sz mo E a1)) (E1 := (f_X5_illegal sz mo E).2) (by unfold f_X5_reckonBy; rw [if_pos c_1, if_neg c_5]; try rfl) X hP hD hS hAe hr hlk dX5_reckonBy_42
    ·
      refine lv_aload_n hx hb dX5_reckonBy_25 rfl (lv_at hl 1 rfl) ?_
      refine lv_iload_n hx hb dX5_reckonBy_26 rfl (lv_at hl 0 rfl) ?_
      refine lv_aload_n hx hb dX5_reckonBy_27 rfl (lv_at hl 1 rfl) ?_
      refine gf_X5_133 X hP dX5_reckonBy_28 ?_
      refine lv_ishl hx hb dX5_reckonBy_31 ?_
      refine go_i (rn_V (ci := 5) (q0 := 0) X (c_X5_become l D q ca sz mo hk E ((mx E ((ms E)).toNatClampNeg) <<< ((mt E) &&& 31)) hd.1) ok_X5_become wd_608 ⟨by decide, by decide⟩ hP hD rfl rfl rfl hl.1 rfl (Nat.le_of_ble_eq_true rfl) dX5_reckonBy_32 ⟨Nat.zero_le _, Nat.zero_le _⟩) hP hD hS hA (fun H locs hP hD hS => ?_)
      refine lv_goto (tgt := 42) hx hb dX5_reckonBy_35 (by decide) ?_
      exact rmu_i (v := (f_X5_become sz mo E ((mx E ((ms E)).toNatClampNeg) <<< ((mt E) &&& 31))).1) (F := (f_X5_reckonBy sz mo E a1)) (E1 := (f_X5_become sz mo E ((mx E ((ms E)).toNatClampNeg) <<< ((mt E) &&& 31))).2) (by unfold f_X5_reckonBy; rw [if_pos c_1, if_pos c_5]; try rfl) X hP hD hS hAe hr hlk dX5_reckonBy_42
set_option maxHeartbeats 4000000 in
set_option maxRecDepth 100000 in
theorem c_X5_multiplied (l : Launch) (D : va_G) (q : Nat → Nat) (ca : Nat → ClassId) (sz mo : Int32) (hk : MOk sz mo) (E : MS) (a1 : Int32) (a2 : Int32) : Mt l yX5_multiplied cX5_multiplied 7 (some .int) 0 D (tysM ca) [.ref (q 0), .int a1, .int a2] (cwM q ca sz mo E) (QcI D (cwM q ca sz mo E) (cwM q ca sz mo E) (f_X5_multiplied sz mo E a1 a2)) := by
  refine ent (own := RX5) rfl (by decide) (Nat.le_of_ble_eq_true rfl) ?_
  intro p e s m below meth c A ls X hr hlk hmn hAe hA hP hD hS hl
  have hx := X.1.1
  have hb := X.1.2.1
  have hl : lv_has ls 7 [(0, .ref (q 0)), (1, .int a1), (2, .int a2)] := hl
  refine lv_iload_n hx hb dX5_multiplied_0 rfl (lv_at hl 1 rfl) ?_
  refine lv_i2l (v := (a1).toInt64) hx hb dX5_multiplied_1 rfl ?_
  refine lv_ldc2 (v := (4294967295 : Int64)) hx hb X.1.2.2.2.1 (X.1.2.2.2.2 _ wd_655) dX5_multiplied_2 ?_
  refine lv_land hx hb dX5_multiplied_5 ?_
  refine lv_lstore_n (lv' := [(3, .long ((a1).toInt64 &&& (4294967295 : Int64))), (0, .ref (q 0)), (1, .int a1), (2, .int a2)]) hx hb dX5_multiplied_6 rfl hl (by decide) rfl (fun ls hl => ?_)
  refine lv_iload_n hx hb dX5_multiplied_7 rfl (lv_at hl 3 rfl) ?_
  refine lv_i2l (v := (a2).toInt64) hx hb dX5_multiplied_8 rfl ?_
  refine lv_ldc2 (v := (4294967295 : Int64)) hx hb X.1.2.2.2.1 (X.1.2.2.2.2 _ wd_655) dX5_multiplied_9 ?_
  refine lv_land hx hb dX5_multiplied_12 ?_
  refine lv_lstore (lv' := [(5, .long ((a2).toInt64 &&& (4294967295 : Int64))), (3, .long ((a1).toInt64 &&& (4294967295 : Int64))), (0, .ref (q 0)), (1, .int a1), (2, .int a2)]) hx hb dX5_multiplied_13 hl (by decide) rfl (fun ls hl => ?_)
  refine lv_aload_n hx hb dX5_multiplied_15 rfl (lv_at hl 2 rfl) ?_
  refine gf_X5_127 X hP dX5_multiplied_16 ?_
  by_cases c_1 : (mf E) = (0 : Int32)
  ·
    refine lv_tableIn (off := 41) (tgt := 60) hx hb dX5_multiplied_19 (by rw [c_1]; decide) (by rw [c_1]; decide) (by rw [c_1]; decide) (by decide) ?_
    refine lv_iload_n hx hb dX5_multiplied_60 rfl (lv_at hl 3 rfl) ?_
    refine lv_iload_n hx hb dX5_multiplied_61 rfl (lv_at hl 4 rfl) ?_
    refine lv_imul hx hb dX5_multiplied_62 ?_
    exact rg_i (v := (a1 * a2)) (F := (f_X5_multiplied sz mo E a1 a2)) (by unfold f_X5_multiplied; rw [if_pos c_1]; try rfl) X hP hD hS hAe hr hlk dX5_multiplied_63
  by_cases c_2 : (mf E) = (1 : Int32)
  ·
    refine lv_tableIn (off := 45) (tgt := 64) hx hb dX5_multiplied_19 (by rw [c_2]; decide) (by rw [c_2]; decide) (by rw [c_2]; decide) (by decide) ?_
    refine lv_iload_n hx hb dX5_multiplied_64 rfl (lv_at hl 3 rfl) ?_
    refine lv_i2l (v := (a1).toInt64) hx hb dX5_multiplied_65 rfl ?_
    refine lv_iload_n hx hb dX5_multiplied_66 rfl (lv_at hl 4 rfl) ?_
    refine lv_i2l (v := (a2).toInt64) hx hb dX5_multiplied_67 rfl ?_
    refine lv_lmul hx hb dX5_multiplied_68 ?_
    refine lv_bipush (v := (32 : Int32)) hx hb dX5_multiplied_69 (by decide) ?_
    refine lv_lshr (v := (jlshr ((a1).toInt64 * (a2).toInt64) (32 : Int32))) hx hb dX5_multiplied_71 rfl ?_
    refine lv_l2i (v := ((jlshr ((a1).toInt64 * (a2).toInt64) (32 : Int32))).toInt32) hx hb dX5_multiplied_72 rfl ?_
    exact rg_i (v := ((jlshr ((a1).toInt64 * (a2).toInt64) (32 : Int32))).toInt32) (F := (f_X5_multiplied sz mo E a1 a2)) (by unfold f_X5_multiplied; rw [if_neg c_1, if_pos c_2]; try rfl) X hP hD hS hAe hr hlk dX5_multiplied_73
  by_cases c_3 : (mf E) = (2 : Int32)
  ·
    refine lv_tableIn (off := 55) (tgt := 74) hx hb dX5_multiplied_19 (by rw [c_3]; decide) (by rw [c_3]; decide) (by rw [c_3]; decide) (by decide) ?_
    refine lv_iload_n hx hb dX5_multiplied_74 rfl (lv_at hl 3 rfl) ?_
    refine lv_i2l (v := (a1).toInt64) hx hb dX5_multiplied_75 rfl ?_
    refine lv_lload hx hb dX5_multiplied_76 (lv_at hl 0 rfl) ?_
    refine lv_lmul hx hb dX5_multiplied_78 ?_
    refine lv_bipush (v := (32 : Int32)) hx hb dX5_multiplied_79 (by decide) ?_
    refine lv_lshr (v := (jlshr ((a1).toInt64 * ((a2).toInt64 &&& (4294967295 : Int64))) (32 : Int32))) hx hb dX5_multiplied_81 rfl ?_
    refine lv_l2i (v := ((jlshr ((a1).toInt64 * ((a2).toInt64 &&& (4294967295 : Int64))) (32 : Int32))).toInt32) hx hb dX5_multiplied_82 rfl ?_
    exact rg_i (v := ((jlshr ((a1).toInt64 * ((a2).toInt64 &&& (4294967295 : Int64))) (32 : Int32))).toInt32) (F := (f_X5_multiplied sz mo E a1 a2)) (by unfold f_X5_multiplied; rw [if_neg c_1, if_neg c_2, if_pos c_3]; try rfl) X hP hD hS hAe hr hlk dX5_multiplied_83
  by_cases c_4 : (mf E) = (3 : Int32)
  ·
    refine lv_tableIn (off := 65) (tgt := 84) hx hb dX5_multiplied_19 (by rw [c_4]; decide) (by rw [c_4]; decide) (by rw [c_4]; decide) (by decide) ?_
    refine lv_lload_n hx hb dX5_multiplied_84 rfl (lv_at hl 1 rfl) ?_
    refine lv_lload hx hb dX5_multiplied_85 (lv_at hl 0 rfl) ?_
    refine lv_lmul hx hb dX5_multiplied_87 ?_
    refine lv_bipush (v := (32 : Int32)) hx hb dX5_multiplied_88 (by decide) ?_
    refine lv_lshr (v := (jlshr (((a1).toInt64 &&& (4294967295 : Int64)) * ((a2).toInt64 &&& (4294967295 : Int64))) (32 : Int32))) hx hb dX5_multiplied_90 rfl ?_
    refine lv_l2i (v := ((jlshr (((a1).toInt64 &&& (4294967295 : Int64)) * ((a2).toInt64 &&& (4294967295 : Int64))) (32 : Int32))).toInt32) hx hb dX5_multiplied_91 rfl ?_
    exact rg_i (v := ((jlshr (((a1).toInt64 &&& (4294967295 : Int64)) * ((a2).toInt64 &&& (4294967295 : Int64))) (32 : Int32))).toInt32) (F := (f_X5_multiplied sz mo E a1 a2)) (by unfold f_X5_multiplied; rw [if_neg c_1, if_neg c_2, if_neg c_3, if_pos c_4]; try rfl) X hP hD hS hAe hr hlk dX5_multiplied_92
  by_cases c_5 : (mf E) = (4 : Int32)
  ·
    refine lv_tableIn (off := 74) (tgt := 93) hx hb dX5_multiplied_19 (by rw [c_5]; decide) (by rw [c_5]; decide) (by rw [c_5]; decide) (by decide) ?_
    refine lv_iload_n hx hb dX5_multiplied_93 rfl (lv_at hl 4 rfl) ?_
    refine lv_if_ne (tgt := 101) hx hb dX5_multiplied_94 (by decide) (fun c_6 => ?_) (fun c_6 => ?_)
    ·
      refine lv_iload_n hx hb dX5_multiplied_101 rfl (lv_at hl 4 rfl) ?_
      refine lv_iconst (v := (-1 : Int32)) hx hb dX5_multiplied_102 (by decide) ?_
      refine lv_icmp_ne (tgt := 111) hx hb dX5_multiplied_103 (by decide) (fun c_7 => ?_) (fun c_7 => ?_)
      ·
        refine lv_iload_n hx hb dX5_multiplied_111 rfl (lv_at hl 3 rfl) ?_
        refine lv_iload_n hx hb dX5_multiplied_112 rfl (lv_at hl 4 rfl) ?_
        refine lv_idiv hx hb dX5_multiplied_113 c_6 ?_
        exact rg_i (v := (a1 / a2)) (F := (f_X5_multiplied sz mo E a1 a2)) (by unfold f_X5_multiplied; rw [if_neg c_1, if_neg c_2, if_neg c_3, if_neg c_4, if_pos c_5, if_neg c_6, if_neg c_7]; try rfl) X hP hD hS hAe hr hlk dX5_multiplied_114
      ·
        refine lv_iload_n hx hb dX5_multiplied_106 rfl (lv_at hl 3 rfl) ?_
        refine lv_ineg hx hb dX5_multiplied_107 ?_
        refine lv_goto (tgt := 114) hx hb dX5_multiplied_108 (by decide) ?_
        exact rg_i (v := (-a1)) (F := (f_X5_multiplied sz mo E a1 a2)) (by unfold f_X5_multiplied; rw [if_neg c_1, if_neg c_2, if_neg c_3, if_neg c_4, if_pos c_5, if_neg c_6, if_pos c_7]; try rfl) X hP hD hS hAe hr hlk dX5_multiplied_114
    ·
      refine lv_iconst (v := (-1 : Int32)) hx hb dX5_multiplied_97 (by decide) ?_
      refine lv_goto (tgt := 114) hx hb dX5_multiplied_98 (by decide) ?_
      exact rg_i (v := (-1 : Int32)) (F := (f_X5_multiplied sz mo E a1 a2)) (by unfold f_X5_multiplied; rw [if_neg c_1, if_neg c_2, if_neg c_3, if_neg c_4, if_pos c_5, if_pos c_6]; try rfl) X hP hD hS hAe hr hlk dX5_multiplied_114
  by_cases c_8 : (mf E) = (5 : Int32)
  ·
    refine lv_tableIn (off := 96) (tgt := 115) hx hb dX5_multiplied_19 (by rw [c_8]; decide) (by rw [c_8]; decide) (by rw [c_8]; decide) (by decide) ?_
    refine lv_iload_n hx hb dX5_multiplied_115 rfl (lv_at hl 4 rfl) ?_
    refine lv_if_ne (tgt := 123) hx hb dX5_multiplied_116 (by decide) (fun c_9 => ?_) (fun c_9 => ?_)
    ·
      refine lv_lload_n hx hb dX5_multiplied_123 rfl (lv_at hl 1 rfl) ?_
      refine lv_lload hx hb dX5_multiplied_124 (lv_at hl 0 rfl) ?_
      refine lv_ldiv hx hb dX5_multiplied_126 (msk_ne c_9) ?_
      refine lv_l2i (v := ((((a1).toInt64 &&& (4294967295 : Int64)) / ((a2).toInt64 &&& (4294967295 : Int64)))).toInt32) hx hb dX5_multiplied_127 rfl ?_
      exact rg_i (v := ((((a1).toInt64 &&& (4294967295 : Int64)) / ((a2).toInt64 &&& (4294967295 : Int64)))).toInt32) (F := (f_X5_multiplied sz mo E a1 a2)) (by unfold f_X5_multiplied; rw [if_neg c_1, if_neg c_2, if_neg c_3, if_neg c_4, if_neg c_5, if_pos c_8, if_neg c_9]; try rfl) X hP hD hS hAe hr hlk dX5_multiplied_128
    ·
      refine lv_iconst (v := (-1 : Int32)) hx hb dX5_multiplied_119 (by decide) ?_
      refine lv_goto (tgt := 128) hx hb dX5_multiplied_120 (by decide) ?_
      exact rg_i (v := (-1 : Int32)) (F := (f_X5_multiplied sz mo E a1 a2)) (by unfold f_X5_multiplied; rw [if_neg c_1, if_neg c_2, if_neg c_3, if_neg c_4, if_neg c_5, if_pos c_8, if_pos c_9]; try rfl) X hP hD hS hAe hr hlk dX5_multiplied_128
  by_cases c_10 : (mf E) = (6 : Int32)
  ·
    refine lv_tableIn (off := 110) (tgt := 129) hx hb dX5_multiplied_19 (by rw [c_10]; decide) (by rw [c_10]; decide) (by rw [c_10]; decide) (by decide) ?_
    refine lv_iload_n hx hb dX5_multiplied_129 rfl (lv_at hl 4 rfl) ?_
    refine lv_if_ne (tgt := 137) hx hb dX5_multiplied_130 (by decide) (fun c_11 => ?_) (fun c_11 => ?_)
    ·
      refine lv_iload_n hx hb dX5_multiplied_137 rfl (lv_at hl 4 rfl) ?_
      refine lv_iconst (v := (-1 : Int32)) hx hb dX5_multiplied_138 (by decide) ?_
      refine lv_icmp_ne (tgt := 146) hx hb dX5_multiplied_139 (by decide) (fun c_12 => ?_) (fun c_12 => ?_)
      ·
        refine lv_iload_n hx hb dX5_multiplied_146 rfl (lv_at hl 3 rfl) ?_
        refine lv_iload_n hx hb dX5_multiplied_147 rfl (lv_at hl 4 rfl) ?_
        refine lv_irem hx hb dX5_multiplied_148 c_11 ?_
        exact rg_i (v := (a1 - a1 / a2 * a2)) (F := (f_X5_multiplied sz mo E a1 a2)) (by unfold f_X5_multiplied; rw [if_neg c_1, if_neg c_2, if_neg c_3, if_neg c_4, if_neg c_5, if_neg c_8, if_pos c_10, if_neg c_11, if_neg c_12]; try rfl) X hP hD hS hAe hr hlk dX5_multiplied_149
      ·
        refine lv_iconst (v := (0 : Int32)) hx hb dX5_multiplied_142 (by decide) ?_
        refine lv_goto (tgt := 149) hx hb dX5_multiplied_143 (by decide) ?_
        exact rg_i (v := (0 : Int32)) (F := (f_X5_multiplied sz mo E a1 a2)) (by unfold f_X5_multiplied; rw [if_neg c_1, if_neg c_2, if_neg c_3, if_neg c_4, if_neg c_5, if_neg c_8, if_pos c_10, if_neg c_11, if_pos c_12]; try rfl) X hP hD hS hAe hr hlk dX5_multiplied_149
    ·
      refine lv_iload_n hx hb dX5_multiplied_133 rfl (lv_at hl 3 rfl) ?_
      refine lv_goto (tgt := 149) hx hb dX5_multiplied_134 (by decide) ?_
      exact rg_i (v := a1) (F := (f_X5_multiplied sz mo E a1 a2)) (by unfold f_X5_multiplied; rw [if_neg c_1, if_neg c_2, if_neg c_3, if_neg c_4, if_neg c_5, if_neg c_8, if_pos c_10, if_pos c_11]; try rfl) X hP hD hS hAe hr hlk dX5_multiplied_149
  refine lv_tableOut (tgt := 150) hx hb dX5_multiplied_19 (by have := lv_neT (a := 0) c_1 (by decide); have := lv_neT (a := 1) c_2 (by decide); have := lv_neT (a := 2) c_3 (by decide); have := lv_neT (a := 3) c_4 (by decide); have := lv_neT (a := 4) c_5 (by decide); have := lv_neT (a := 5) c_8 (by decide); have := lv_neT (a := 6) c_10 (by decide); omega) (by decide) ?_
  refine lv_iload_n hx hb dX5_multiplied_150 rfl (lv_at hl 4 rfl) ?_
  refine lv_if_ne (tgt := 158) hx hb dX5_multiplied_151 (by decide) (fun c_13 => ?_) (fun c_13 => ?_)
  ·
    refine lv_lload_n hx hb dX5_multiplied_158 rfl (lv_at hl 1 rfl) ?_
    refine lv_lload hx hb dX5_multiplied_159 (lv_at hl 0 rfl) ?_
    refine lv_lrem hx hb dX5_multiplied_161 (msk_ne c_13) ?_
    refine lv_l2i (v := ((((a1).toInt64 &&& (4294967295 : Int64)) - ((a1).toInt64 &&& (4294967295 : Int64)) / ((a2).toInt64 &&& (4294967295 : Int64)) * ((a2).toInt64 &&& (4294967295 : Int64)))).toInt32) hx hb dX5_multiplied_162 rfl ?_
    exact rg_i (v := ((((a1).toInt64 &&& (4294967295 : Int64)) - ((a1).toInt64 &&& (4294967295 : Int64)) / ((a2).toInt64 &&& (4294967295 : Int64)) * ((a2).toInt64 &&& (4294967295 : Int64)))).toInt32) (F := (f_X5_multiplied sz mo E a1 a2)) (by unfold f_X5_multiplied; rw [if_neg c_1, if_neg c_2, if_neg c_3, if_neg c_4, if_neg c_5, if_neg c_8, if_neg c_10, if_neg c_13]; try rfl) X hP hD hS hAe hr hlk dX5_multiplied_163
  ·
    refine lv_iload_n hx hb dX5_multiplied_154 rfl (lv_at hl 3 rfl) ?_
    refine lv_goto (tgt := 163) hx hb dX5_multiplied_155 (by decide) ?_
    exact rg_i (v := a1) (F := (f_X5_multiplied sz mo E a1 a2)) (by unfold f_X5_multiplied; rw [if_neg c_1, if_neg c_2, if_neg c_3, if_neg c_4, if_neg c_5, if_neg c_8, if_neg c_10, if_pos c_13]; try rfl) X hP hD hS hAe hr hlk dX5_multiplied_163
set_option maxHeartbeats 4000000 in
set_option maxRecDepth 100000 in
theorem c_X5_reckonTwo (l : Launch) (D : va_G) (q : Nat → Nat) (ca : Nat → ClassId) (sz mo : Int32) (hk : MOk sz mo) (E : MS) (hd : mDec E) : Mt l yX5_reckonTwo cX5_reckonTwo 3 (some .int) 2 D (tysM ca) [.ref (q 0)] (cwM q ca sz mo E) (QcI D (cwM q ca sz mo E) (cwM q ca sz mo (f_X5_reckonTwo sz mo E).2) (f_X5_reckonTwo sz mo E).1) := by
  refine ent (own := RX5) rfl (by decide) (Nat.le_of_ble_eq_true rfl) ?_
  intro p e s m below meth c A ls X hr hlk hmn hAe hA hP hD hS hl
  have hx := X.1.1
  have hb := X.1.2.1
  have hl : lv_has ls 3 [(0, .ref (q 0))] := hl
  refine lv_aload_n hx hb dX5_reckonTwo_0 rfl (lv_at hl 0 rfl) ?_
  refine gf_X5_14 X hP dX5_reckonTwo_1 ?_
  refine lv_aload_n hx hb dX5_reckonTwo_4 rfl (lv_at hl 0 rfl) ?_
  refine gf_X5_130 X hP dX5_reckonTwo_5 ?_
  refine mld_2 X hP hd.2.1 dX5_reckonTwo_8 ?_
  refine lv_istore_n (lv' := [(1, .int (mx E ((ms E)).toNatClampNeg)), (0, .ref (q 0))]) hx hb dX5_reckonTwo_9 rfl hl (by decide) rfl (fun ls hl => ?_)
  refine lv_aload_n hx hb dX5_reckonTwo_10 rfl (lv_at hl 1 rfl) ?_
  refine gf_X5_14 X hP dX5_reckonTwo_11 ?_
  refine lv_aload_n hx hb dX5_reckonTwo_14 rfl (lv_at hl 1 rfl) ?_
  refine gf_X5_133 X hP dX5_reckonTwo_15 ?_
  refine mld_2 X hP hd.2.2.1 dX5_reckonTwo_18 ?_
  refine lv_istore_n (lv' := [(2, .int (mx E ((mt E)).toNatClampNeg)), (1, .int (mx E ((ms E)).toNatClampNeg)), (0, .ref (q 0))]) hx hb dX5_reckonTwo_19 rfl hl (by decide) rfl (fun ls hl => ?_)
  refine lv_aload_n hx hb dX5_reckonTwo_20 rfl (lv_at hl 2 rfl) ?_
  refine gf_X5_136 X hP dX5_reckonTwo_21 ?_
  refine lv_iconst (v := (1 : Int32)) hx hb dX5_reckonTwo_24 (by decide) ?_
  refine lv_icmp_ne (tgt := 39) hx hb dX5_reckonTwo_25 (by decide) (fun c_1 => ?_) (fun c_1 => ?_)
  ·
    refine lv_aload_n hx hb dX5_reckonTwo_39 rfl (lv_at hl 2 rfl) ?_
    refine gf_X5_136 X hP dX5_reckonTwo_40 ?_
    refine lv_if_ne (tgt := 57) hx hb dX5_reckonTwo_43 (by decide) (fun c_2 => ?_) (fun c_2 => ?_)
    ·
      refine lv_aload_n hx hb dX5_reckonTwo_57 rfl (lv_at hl 2 rfl) ?_
      refine gf_X5_136 X hP dX5_reckonTwo_58 ?_
      refine lv_bipush (v := (32 : Int32)) hx hb dX5_reckonTwo_61 (by decide) ?_
      refine lv_icmp_ne (tgt := 81) hx hb dX5_reckonTwo_63 (by decide) (fun c_3 => ?_) (fun c_3 => ?_)
      ·
        refine lv_aload_n hx hb dX5_reckonTwo_81 rfl (lv_at hl 2 rfl) ?_
        refine gf_X5_136 X hP dX5_reckonTwo_82 ?_
        refine lv_bipush (v := (32 : Int32)) hx hb dX5_reckonTwo_85 (by decide) ?_
        refine lv_icmp_ne (tgt := 111) hx hb dX5_reckonTwo_87 (by decide) (fun _ => ?_) (fun h => absurd h c_3)
        refine lv_aload_n hx hb dX5_reckonTwo_111 rfl (lv_at hl 2 rfl) ?_
        refine go_i (rn_V (ci := 5) (q0 := 0) X (c_X5_illegal l D q ca sz mo hk E ) ok_X5_illegal wd_621 ⟨by decide, by decide⟩ hP hD rfl rfl rfl hl.1 rfl (Nat.le_of_ble_eq_true rfl) dX5_reckonTwo_112 ⟨Nat.zero_le _, Nat.zero_le _⟩) hP hD hS hA (fun H locs hP hD hS => ?_)
        exact rmu_i (v := (f_X5_illegal sz mo E).1) (F := (f_X5_reckonTwo sz mo E)) (E1 := (f_X5_illegal sz mo E).2) (by unfold f_X5_reckonTwo; rw [if_neg c_1, if_neg c_2, if_neg c_3]; try rfl) X hP hD hS hAe hr hlk dX5_reckonTwo_115
      ·
        refine lv_aload_n hx hb dX5_reckonTwo_66 rfl (lv_at hl 2 rfl) ?_
        refine gf_X5_127 X hP dX5_reckonTwo_67 ?_
        refine lv_if_ne (tgt := 81) hx hb dX5_reckonTwo_70 (by decide) (fun c_5 => ?_) (fun c_5 => ?_)
        ·
          refine lv_aload_n hx hb dX5_reckonTwo_81 rfl (lv_at hl 2 rfl) ?_
          refine gf_X5_136 X hP dX5_reckonTwo_82 ?_
          refine lv_bipush (v := (32 : Int32)) hx hb dX5_reckonTwo_85 (by decide) ?_
          refine lv_icmp_ne (tgt := 111) hx hb dX5_reckonTwo_87 (by decide) (fun h => absurd c_3 h) (fun _ => ?_)
          refine lv_aload_n hx hb dX5_reckonTwo_90 rfl (lv_at hl 2 rfl) ?_
          refine gf_X5_127 X hP dX5_reckonTwo_91 ?_
          refine lv_iconst (v := (5 : Int32)) hx hb dX5_reckonTwo_94 (by decide) ?_
          refine lv_icmp_ne (tgt := 111) hx hb dX5_reckonTwo_95 (by decide) (fun c_7 => ?_) (fun c_7 => ?_)
          ·
            refine lv_aload_n hx hb dX5_reckonTwo_111 rfl (lv_at hl 2 rfl) ?_
            refine go_i (rn_V (ci := 5) (q0 := 0) X (c_X5_illegal l D q ca sz mo hk E ) ok_X5_illegal wd_621 ⟨by decide, by decide⟩ hP hD rfl rfl rfl hl.1 rfl (Nat.le_of_ble_eq_true rfl) dX5_reckonTwo_112 ⟨Nat.zero_le _, Nat.zero_le _⟩) hP hD hS hA (fun H locs hP hD hS => ?_)
            exact rmu_i (v := (f_X5_illegal sz mo E).1) (F := (f_X5_reckonTwo sz mo E)) (E1 := (f_X5_illegal sz mo E).2) (by unfold f_X5_reckonTwo; rw [if_neg c_1, if_neg c_2, if_pos c_3, if_neg c_5, if_neg c_7]; try rfl) X hP hD hS hAe hr hlk dX5_reckonTwo_115
          ·
            refine lv_aload_n hx hb dX5_reckonTwo_98 rfl (lv_at hl 2 rfl) ?_
            refine lv_iload_n hx hb dX5_reckonTwo_99 rfl (lv_at hl 1 rfl) ?_
            refine lv_iload_n hx hb dX5_reckonTwo_100 rfl (lv_at hl 0 rfl) ?_
            refine lv_bipush (v := (31 : Int32)) hx hb dX5_reckonTwo_101 (by decide) ?_
            refine lv_iand hx hb dX5_reckonTwo_103 ?_
            refine lv_ishr hx hb dX5_reckonTwo_104 ?_
            refine go_i (rn_V (ci := 5) (q0 := 0) X (c_X5_become l D q ca sz mo hk E ((mx E ((ms E)).toNatClampNeg) >>> (((mx E ((mt E)).toNatClampNeg) &&& (31 : Int32)) &&& 31)) hd.1) ok_X5_become wd_608 ⟨by decide, by decide⟩ hP hD rfl rfl rfl hl.1 rfl (Nat.le_of_ble_eq_true rfl) dX5_reckonTwo_105 ⟨Nat.zero_le _, Nat.zero_le _⟩) hP hD hS hA (fun H locs hP hD hS => ?_)
            refine lv_goto (tgt := 115) hx hb dX5_reckonTwo_108 (by decide) ?_
            exact rmu_i (v := (f_X5_become sz mo E ((mx E ((ms E)).toNatClampNeg) >>> (((mx E ((mt E)).toNatClampNeg) &&& (31 : Int32)) &&& 31))).1) (F := (f_X5_reckonTwo sz mo E)) (E1 := (f_X5_become sz mo E ((mx E ((ms E)).toNatClampNeg) >>> (((mx E ((mt E)).toNatClampNeg) &&& (31 : Int32)) &&& 31))).2) (by unfold f_X5_reckonTwo; rw [if_neg c_1, if_neg c_2, if_pos c_3, if_neg c_5, if_pos c_7]; try rfl) X hP hD hS hAe hr hlk dX5_reckonTwo_115
        ·
          refine lv_aload_n hx hb dX5_reckonTwo_73 rfl (lv_at hl 2 rfl) ?_
          refine lv_iload_n hx hb dX5_reckonTwo_74 rfl (lv_at hl 1 rfl) ?_
          refine lv_iload_n hx hb dX5_reckonTwo_75 rfl (lv_at hl 0 rfl) ?_
          refine lv_isub hx hb dX5_reckonTwo_76 ?_
          refine go_i (rn_V (ci := 5) (q0 := 0) X (c_X5_become l D q ca sz mo hk E ((mx E ((ms E)).toNatClampNeg) - (mx E ((mt E)).toNatClampNeg)) hd.1) ok_X5_become wd_608 ⟨by decide, by decide⟩ hP hD rfl rfl rfl hl.1 rfl (Nat.le_of_ble_eq_true rfl) dX5_reckonTwo_77 ⟨Nat.zero_le _, Nat.zero_le _⟩) hP hD hS hA (fun H locs hP hD hS => ?_)
          exact rmu_i (v := (f_X5_become sz mo E ((mx E ((ms E)).toNatClampNeg) - (mx E ((mt E)).toNatClampNeg))).1) (F := (f_X5_reckonTwo sz mo E)) (E1 := (f_X5_become sz mo E ((mx E ((ms E)).toNatClampNeg) - (mx E ((mt E)).toNatClampNeg))).2) (by unfold f_X5_reckonTwo; rw [if_neg c_1, if_neg c_2, if_pos c_3, if_pos c_5]; try rfl) X hP hD hS hAe hr hlk dX5_reckonTwo_80
    ·
      refine lv_aload_n hx hb dX5_reckonTwo_46 rfl (lv_at hl 2 rfl) ?_
      refine lv_aload_n hx hb dX5_reckonTwo_47 rfl (lv_at hl 2 rfl) ?_
      refine lv_iload_n hx hb dX5_reckonTwo_48 rfl (lv_at hl 1 rfl) ?_
      refine lv_iload_n hx hb dX5_reckonTwo_49 rfl (lv_at hl 0 rfl) ?_
      refine go_i (rn_V (ci := 5) (q0 := 0) X (c_X5_reckon l D q ca sz mo hk E (mx E ((ms E)).toNatClampNeg) (mx E ((mt E)).toNatClampNeg)) ok_X5_reckon wd_660 ⟨by decide, by decide⟩ hP hD rfl rfl rfl hl.1 rfl (Nat.le_of_ble_eq_true rfl) dX5_reckonTwo_50 ⟨Nat.zero_le _, Nat.zero_le _⟩) hP hD hS hA (fun H locs hP hD hS => ?_)
      refine go_i (rn_V (ci := 5) (q0 := 0) X (c_X5_become l D q ca sz mo hk E (f_X5_reckon sz mo E (mx E ((ms E)).toNatClampNeg) (mx E ((mt E)).toNatClampNeg)) hd.1) ok_X5_become wd_608 ⟨by decide, by decide⟩ hP hD rfl rfl rfl hl.1 rfl (Nat.le_of_ble_eq_true rfl) dX5_reckonTwo_53 ⟨Nat.zero_le _, Nat.zero_le _⟩) hP hD hS hA (fun H locs hP hD hS => ?_)
      exact rmu_i (v := (f_X5_become sz mo E (f_X5_reckon sz mo E (mx E ((ms E)).toNatClampNeg) (mx E ((mt E)).toNatClampNeg))).1) (F := (f_X5_reckonTwo sz mo E)) (E1 := (f_X5_become sz mo E (f_X5_reckon sz mo E (mx E ((ms E)).toNatClampNeg) (mx E ((mt E)).toNatClampNeg))).2) (by unfold f_X5_reckonTwo; rw [if_neg c_1, if_pos c_2]; try rfl) X hP hD hS hAe hr hlk dX5_reckonTwo_56
  ·
    refine lv_aload_n hx hb dX5_reckonTwo_28 rfl (lv_at hl 2 rfl) ?_
    refine lv_aload_n hx hb dX5_reckonTwo_29 rfl (lv_at hl 2 rfl) ?_
    refine lv_iload_n hx hb dX5_reckonTwo_30 rfl (lv_at hl 1 rfl) ?_
    refine lv_iload_n hx hb dX5_reckonTwo_31 rfl (lv_at hl 0 rfl) ?_
    refine go_i (rn_V (ci := 5) (q0 := 0) X (c_X5_multiplied l D q ca sz mo hk E (mx E ((ms E)).toNatClampNeg) (mx E ((mt E)).toNatClampNeg)) ok_X5_multiplied wd_668 ⟨by decide, by decide⟩ hP hD rfl rfl rfl hl.1 rfl (Nat.le_of_ble_eq_true rfl) dX5_reckonTwo_32 ⟨Nat.zero_le _, Nat.zero_le _⟩) hP hD hS hA (fun H locs hP hD hS => ?_)
    refine go_i (rn_V (ci := 5) (q0 := 0) X (c_X5_become l D q ca sz mo hk E (f_X5_multiplied sz mo E (mx E ((ms E)).toNatClampNeg) (mx E ((mt E)).toNatClampNeg)) hd.1) ok_X5_become wd_608 ⟨by decide, by decide⟩ hP hD rfl rfl rfl hl.1 rfl (Nat.le_of_ble_eq_true rfl) dX5_reckonTwo_35 ⟨Nat.zero_le _, Nat.zero_le _⟩) hP hD hS hA (fun H locs hP hD hS => ?_)
    exact rmu_i (v := (f_X5_become sz mo E (f_X5_multiplied sz mo E (mx E ((ms E)).toNatClampNeg) (mx E ((mt E)).toNatClampNeg))).1) (F := (f_X5_reckonTwo sz mo E)) (E1 := (f_X5_become sz mo E (f_X5_multiplied sz mo E (mx E ((ms E)).toNatClampNeg) (mx E ((mt E)).toNatClampNeg))).2) (by unfold f_X5_reckonTwo; rw [if_pos c_1]; try rfl) X hP hD hS hAe hr hlk dX5_reckonTwo_38
set_option maxHeartbeats 4000000 in
set_option maxRecDepth 100000 in
theorem c_X5_mixed (l : Launch) (D : va_G) (tys : List (ClassId × FieldType)) (ws : va_W) (a1 : Int64) (a2 : Bool) (a3 : Int32) : Mt l yX5_mixed cX5_mixed 4 (some .long) 0 D tys [.long a1, .int (b2i a2), .int a3] ws (QcL D ws ws (f_X5_mixed a1 a2 a3)) := by
  refine ent (own := RX5) rfl (by decide) (Nat.le_of_ble_eq_true rfl) ?_
  intro p e s m below meth c A ls X hr hlk hmn hAe hA hP hD hS hl
  have hx := X.1.1
  have hb := X.1.2.1
  have hl : lv_has ls 4 [(0, .long a1), (2, .int (b2i a2)), (3, .int a3)] := hl
  refine lv_iload_n hx hb dX5_mixed_0 rfl (lv_at hl 1 rfl) ?_
  refine lv_if_eq (tgt := 18) hx hb dX5_mixed_1 (by decide) (fun c_1 => ?_) (fun c_1 => ?_)
  ·
    refine lv_lload_n hx hb dX5_mixed_18 rfl (lv_at hl 0 rfl) ?_
    refine lv_bipush (v := (32 : Int32)) hx hb dX5_mixed_19 (by decide) ?_
    refine lv_lshr (v := (jlshr a1 (32 : Int32))) hx hb dX5_mixed_21 rfl ?_
    refine lv_bipush (v := (32 : Int32)) hx hb dX5_mixed_22 (by decide) ?_
    refine lv_lshl (v := (jlshl (jlshr a1 (32 : Int32)) (32 : Int32))) hx hb dX5_mixed_24 rfl ?_
    refine lv_iload_n hx hb dX5_mixed_25 rfl (lv_at hl 2 rfl) ?_
    refine lv_i2l (v := (a3).toInt64) hx hb dX5_mixed_26 rfl ?_
    refine lv_ldc2 (v := (4294967295 : Int64)) hx hb X.1.2.2.2.1 (X.1.2.2.2.2 _ wd_655) dX5_mixed_27 ?_
    refine lv_land hx hb dX5_mixed_30 ?_
    refine lv_lor hx hb dX5_mixed_31 ?_
    exact rg_l (v := ((jlshl (jlshr a1 (32 : Int32)) (32 : Int32)) ||| ((a3).toInt64 &&& (4294967295 : Int64)))) (F := (f_X5_mixed a1 a2 a3)) (by unfold f_X5_mixed; rw [if_pos c_1]; try rfl) X hP hD hS hAe hr hlk dX5_mixed_32
  ·
    refine lv_iload_n hx hb dX5_mixed_4 rfl (lv_at hl 2 rfl) ?_
    refine lv_i2l (v := (a3).toInt64) hx hb dX5_mixed_5 rfl ?_
    refine lv_bipush (v := (32 : Int32)) hx hb dX5_mixed_6 (by decide) ?_
    refine lv_lshl (v := (jlshl (a3).toInt64 (32 : Int32))) hx hb dX5_mixed_8 rfl ?_
    refine lv_lload_n hx hb dX5_mixed_9 rfl (lv_at hl 0 rfl) ?_
    refine lv_ldc2 (v := (4294967295 : Int64)) hx hb X.1.2.2.2.1 (X.1.2.2.2.2 _ wd_655) dX5_mixed_10 ?_
    refine lv_land hx hb dX5_mixed_13 ?_
    refine lv_lor hx hb dX5_mixed_14 ?_
    refine lv_goto (tgt := 32) hx hb dX5_mixed_15 (by decide) ?_
    exact rg_l (v := ((jlshl (a3).toInt64 (32 : Int32)) ||| (a1 &&& (4294967295 : Int64)))) (F := (f_X5_mixed a1 a2 a3)) (by unfold f_X5_mixed; rw [if_neg c_1]; try rfl) X hP hD hS hAe hr hlk dX5_mixed_32
set_option maxHeartbeats 4000000 in
set_option maxRecDepth 100000 in
theorem c_X5_store (l : Launch) (D : va_G) (q : Nat → Nat) (ca : Nat → ClassId) (sz mo : Int32) (hk : MOk sz mo) (E : MS) (hd : mDec E) (hs : mSnt mo E) : Mt l yX5_store cX5_store 5 (some .int) 2 D (tysM ca) [.ref (q 0)] (cwM q ca sz mo E) (QcI D (cwM q ca sz mo E) (cwM q ca sz mo (f_X5_store sz mo E).2) (f_X5_store sz mo E).1) := by
  refine ent (own := RX5) rfl (by decide) (Nat.le_of_ble_eq_true rfl) ?_
  intro p e s m below meth c A ls X hr hlk hmn hAe hA hP hD hS hl
  have hx := X.1.1
  have hb := X.1.2.1
  have hl : lv_has ls 5 [(0, .ref (q 0))] := hl
  refine lv_aload_n hx hb dX5_store_0 rfl (lv_at hl 0 rfl) ?_
  refine gf_X5_127 X hP dX5_store_1 ?_
  refine lv_iconst (v := (2 : Int32)) hx hb dX5_store_4 (by decide) ?_
  refine lv_icmp_le (tgt := 13) hx hb dX5_store_5 (by decide) (fun c_1 => ?_) (fun c_1 => ?_)
  ·
    refine lv_aload_n hx hb dX5_store_13 rfl (lv_at hl 0 rfl) ?_
    refine gf_X5_14 X hP dX5_store_14 ?_
    refine lv_aload_n hx hb dX5_store_17 rfl (lv_at hl 0 rfl) ?_
    refine gf_X5_130 X hP dX5_store_18 ?_
    refine mld_2 X hP hd.2.1 dX5_store_21 ?_
    refine lv_aload_n hx hb dX5_store_22 rfl (lv_at hl 0 rfl) ?_
    refine gf_X5_118 X hP dX5_store_23 ?_
    refine lv_bipush (v := (25 : Int32)) hx hb dX5_store_26 (by decide) ?_
    refine lv_ishr hx hb dX5_store_28 ?_
    refine lv_iconst (v := (5 : Int32)) hx hb dX5_store_29 (by decide) ?_
    refine lv_ishl hx hb dX5_store_30 ?_
    refine lv_aload_n hx hb dX5_store_31 rfl (lv_at hl 0 rfl) ?_
    refine gf_X5_124 X hP dX5_store_32 ?_
    refine lv_ior hx hb dX5_store_35 ?_
    refine lv_iadd hx hb dX5_store_36 ?_
    refine lv_istore_n (lv' := [(1, .int ((mx E ((ms E)).toNatClampNeg) + ((((mword E) >>> ((25 : Int32) &&& 31)) <<< ((5 : Int32) &&& 31)) ||| (md E)))), (0, .ref (q 0))]) hx hb dX5_store_37 rfl hl (by decide) rfl (fun ls hl => ?_)
    refine lv_iconst (v := (1 : Int32)) hx hb dX5_store_38 (by decide) ?_
    refine lv_aload_n hx hb dX5_store_39 rfl (lv_at hl 1 rfl) ?_
    refine gf_X5_127 X hP dX5_store_40 ?_
    refine lv_ishl hx hb dX5_store_43 ?_
    refine lv_istore_n (lv' := [(2, .int ((1 : Int32) <<< ((mf E) &&& 31))), (1, .int ((mx E ((ms E)).toNatClampNeg) + ((((mword E) >>> ((25 : Int32) &&& 31)) <<< ((5 : Int32) &&& 31)) ||| (md E)))), (0, .ref (q 0))]) hx hb dX5_store_44 rfl hl (by decide) rfl (fun ls hl => ?_)
    refine lv_aload_n hx hb dX5_store_45 rfl (lv_at hl 2 rfl) ?_
    refine gf_X5_14 X hP dX5_store_46 ?_
    refine lv_aload_n hx hb dX5_store_49 rfl (lv_at hl 2 rfl) ?_
    refine gf_X5_133 X hP dX5_store_50 ?_
    refine mld_2 X hP hd.2.2.1 dX5_store_53 ?_
    refine lv_istore_n (lv' := [(3, .int (mx E ((mt E)).toNatClampNeg)), (2, .int ((1 : Int32) <<< ((mf E) &&& 31))), (1, .int ((mx E ((ms E)).toNatClampNeg) + ((((mword E) >>> ((25 : Int32) &&& 31)) <<< ((5 : Int32) &&& 31)) ||| (md E)))), (0, .ref (q 0))]) hx hb dX5_store_54 rfl hl (by decide) rfl (fun ls hl => ?_)
    refine lv_iload_n hx hb dX5_store_55 rfl (lv_at hl 2 rfl) ?_
    refine lv_iload_n hx hb dX5_store_56 rfl (lv_at hl 1 rfl) ?_
    refine lv_iconst (v := (1 : Int32)) hx hb dX5_store_57 (by decide) ?_
    refine lv_isub hx hb dX5_store_58 ?_
    refine lv_iand hx hb dX5_store_59 ?_
    refine lv_if_eq (tgt := 71) hx hb dX5_store_60 (by decide) (fun c_2 => ?_) (fun c_2 => ?_)
    ·
      refine lv_aload_n hx hb dX5_store_71 rfl (lv_at hl 3 rfl) ?_
      refine lv_iload_n hx hb dX5_store_72 rfl (lv_at hl 2 rfl) ?_
      refine lv_iload_n hx hb dX5_store_73 rfl (lv_at hl 1 rfl) ?_
      refine go_i (rn_V (ci := 5) (q0 := 0) X (c_X5_isThere l D q ca sz mo hk E ((mx E ((ms E)).toNatClampNeg) + ((((mword E) >>> ((25 : Int32) &&& 31)) <<< ((5 : Int32) &&& 31)) ||| (md E))) ((1 : Int32) <<< ((mf E) &&& 31))) ok_X5_isThere wd_556 ⟨by decide, by decide⟩ hP hD rfl rfl rfl hl.1 rfl (Nat.le_of_ble_eq_true rfl) dX5_store_74 ⟨Nat.zero_le _, Nat.zero_le _⟩) hP hD hS hA (fun H locs hP hD hS => ?_)
      refine lv_if_eq (tgt := 90) hx hb dX5_store_77 (by decide) (fun c_3 => ?_) (fun c_3 => ?_)
      ·
        refine lv_iload_n hx hb dX5_store_90 rfl (lv_at hl 2 rfl) ?_
        refine lv_ldc (v := (268435456 : Int32)) hx hb X.1.2.2.2.1 (X.1.2.2.2.2 _ wd_647) dX5_store_91 ?_
        refine lv_icmp_ne (tgt := 136) hx hb dX5_store_93 (by decide) (fun c_4 => ?_) (fun c_4 => ?_)
        ·
          refine lv_iload_n hx hb dX5_store_136 rfl (lv_at hl 1 rfl) ?_
          refine lv_iconst (v := (4 : Int32)) hx hb dX5_store_137 (by decide) ?_
          refine lv_icmp_ne (tgt := 213) hx hb dX5_store_138 (by decide) (fun c_5 => ?_) (fun c_5 => ?_)
          ·
            refine lv_aload_n hx hb dX5_store_213 rfl (lv_at hl 3 rfl) ?_
            refine lv_bipush (v := (7 : Int32)) hx hb dX5_store_214 (by decide) ?_
            refine lv_iload_n hx hb dX5_store_216 rfl (lv_at hl 2 rfl) ?_
            refine go_i (rn_V (ci := 5) (q0 := 0) X (c_X5_trap l D q ca sz mo hk E (7 : Int32) ((mx E ((ms E)).toNatClampNeg) + ((((mword E) >>> ((25 : Int32) &&& 31)) <<< ((5 : Int32) &&& 31)) ||| (md E)))) ok_X5_trap wd_592 ⟨by decide, by decide⟩ hP hD rfl rfl rfl hl.1 rfl (Nat.le_of_ble_eq_true rfl) dX5_store_217 ⟨Nat.zero_le _, Nat.zero_le _⟩) hP hD hS hA (fun H locs hP hD hS => ?_)
            exact rmu_i (v := (f_X5_trap sz mo E (7 : Int32) ((mx E ((ms E)).toNatClampNeg) + ((((mword E) >>> ((25 : Int32) &&& 31)) <<< ((5 : Int32) &&& 31)) ||| (md E)))).1) (F := (f_X5_store sz mo E)) (E1 := (f_X5_trap sz mo E (7 : Int32) ((mx E ((ms E)).toNatClampNeg) + ((((mword E) >>> ((25 : Int32) &&& 31)) <<< ((5 : Int32) &&& 31)) ||| (md E)))).2) (by unfold f_X5_store; rw [if_pos c_1, if_pos c_2, if_pos c_3, if_neg c_4, if_neg c_5]; try rfl) X hP hD hS hAe hr hlk dX5_store_220
          ·
            refine lv_iload_n hx hb dX5_store_141 rfl (lv_at hl 2 rfl) ?_
            refine go_i (rn_S X (c_X5_isClock l D _ _ ((mx E ((ms E)).toNatClampNeg) + ((((mword E) >>> ((25 : Int32) &&& 31)) <<< ((5 : Int32) &&& 31)) ||| (md E)))) ok_X5_isClock wd_640 ⟨by decide, by decide⟩ hP hD rfl hl.1 rfl (Nat.le_of_ble_eq_true rfl) dX5_store_142 ⟨Nat.zero_le _, Nat.zero_le _⟩) hP hD hS hA (fun H locs hP hD hS => ?_)
            refine lv_if_eq (tgt := 213) hx hb dX5_store_145 (by decide) (fun c_6 => ?_) (fun c_6 => ?_)
            ·
              refine lv_aload_n hx hb dX5_store_213 rfl (lv_at hl 3 rfl) ?_
              refine lv_bipush (v := (7 : Int32)) hx hb dX5_store_214 (by decide) ?_
              refine lv_iload_n hx hb dX5_store_216 rfl (lv_at hl 2 rfl) ?_
              refine go_i (rn_V (ci := 5) (q0 := 0) X (c_X5_trap l D q ca sz mo hk E (7 : Int32) ((mx E ((ms E)).toNatClampNeg) + ((((mword E) >>> ((25 : Int32) &&& 31)) <<< ((5 : Int32) &&& 31)) ||| (md E)))) ok_X5_trap wd_592 ⟨by decide, by decide⟩ hP hD rfl rfl rfl hl.1 rfl (Nat.le_of_ble_eq_true rfl) dX5_store_217 ⟨Nat.zero_le _, Nat.zero_le _⟩) hP hD hS hA (fun H locs hP hD hS => ?_)
              exact rmu_i (v := (f_X5_trap sz mo E (7 : Int32) ((mx E ((ms E)).toNatClampNeg) + ((((mword E) >>> ((25 : Int32) &&& 31)) <<< ((5 : Int32) &&& 31)) ||| (md E)))).1) (F := (f_X5_store sz mo E)) (E1 := (f_X5_trap sz mo E (7 : Int32) ((mx E ((ms E)).toNatClampNeg) + ((((mword E) >>> ((25 : Int32) &&& 31)) <<< ((5 : Int32) &&& 31)) ||| (md E)))).2) (by unfold f_X5_store; rw [if_pos c_1, if_pos c_2, if_pos c_3, if_neg c_4, if_pos c_5, if_pos c_6]; try rfl) X hP hD hS hAe hr hlk dX5_store_220
            ·
              refine lv_iload_n hx hb dX5_store_148 rfl (lv_at hl 2 rfl) ?_
              refine lv_ldc (v := (33603580 : Int32)) hx hb X.1.2.2.2.1 (X.1.2.2.2.2 _ wd_644) dX5_store_149 ?_
              refine lv_icmp_eq (tgt := 160) hx hb dX5_store_151 (by decide) (fun c_7 => ?_) (fun c_7 => ?_)
              ·
                refine lv_iconst (v := (1 : Int32)) hx hb dX5_store_160 (by decide) ?_
                refine lv_goto (tgt := 165) hx hb dX5_store_161 (by decide) ?_
                refine lv_istore (lv' := [(4, .int (1 : Int32)), (3, .int (mx E ((mt E)).toNatClampNeg)), (2, .int ((1 : Int32) <<< ((mf E) &&& 31))), (1, .int ((mx E ((ms E)).toNatClampNeg) + ((((mword E) >>> ((25 : Int32) &&& 31)) <<< ((5 : Int32) &&& 31)) ||| (md E)))), (0, .ref (q 0))]) hx hb dX5_store_165 hl (by decide) rfl (fun ls hl => ?_)
                refine lv_iload_n hx hb dX5_store_167 rfl (lv_at hl 3 rfl) ?_
                refine lv_ldc (v := (33603576 : Int32)) hx hb X.1.2.2.2.1 (X.1.2.2.2.2 _ wd_643) dX5_store_168 ?_
                refine lv_icmp_eq (tgt := 179) hx hb dX5_store_170 (by decide) (fun c_8 => ?_) (fun c_8 => ?_)
                ·
                  refine lv_aload_n hx hb dX5_store_179 rfl (lv_at hl 4 rfl) ?_
                  refine lv_aload_n hx hb dX5_store_180 rfl (lv_at hl 4 rfl) ?_
                  refine gf_X5_58 X hP dX5_store_181 ?_
                  refine lv_iload hx hb dX5_store_184 (lv_at hl 0 rfl) ?_
                  refine lv_iload_n hx hb dX5_store_186 rfl (lv_at hl 1 rfl) ?_
                  refine go_l (rn_S X (c_X5_mixed l D _ _ (mtime E) true (mx E ((mt E)).toNatClampNeg)) ok_X5_mixed wd_652 ⟨by decide, by decide⟩ hP hD rfl hl.1 rfl (Nat.le_of_ble_eq_true rfl) dX5_store_187 ⟨Nat.zero_le _, Nat.zero_le _⟩) hP hD hS hA (fun H locs hP hD hS => ?_)
                  refine pf_X5_58 X hP hD hS (f_X5_mixed (mtime E) true (mx E ((mt E)).toNatClampNeg)) dX5_store_190 (fun H locs hP hD hS => ?_)
                  refine lv_goto (tgt := 210) hx hb dX5_store_193 (by decide) ?_
                  refine lv_goto (tgt := 221) hx hb dX5_store_210 (by decide) ?_
                  refine lv_iconst (v := (-1 : Int32)) hx hb dX5_store_221 (by decide) ?_
                  exact rmu_i (v := (-1 : Int32)) (F := (f_X5_store sz mo E)) (E1 := (mtime_ E (f_X5_mixed (mtime E) true (mx E ((mt E)).toNatClampNeg)))) (by unfold f_X5_store; rw [if_pos c_1, if_pos c_2, if_pos c_3, if_neg c_4, if_pos c_5, if_neg c_6, if_pos c_7, if_pos c_8]; try rfl) X hP hD hS hAe hr hlk dX5_store_222
                ·
                  refine lv_iload_n hx hb dX5_store_173 rfl (lv_at hl 3 rfl) ?_
                  refine lv_ldc (v := (33603580 : Int32)) hx hb X.1.2.2.2.1 (X.1.2.2.2.2 _ wd_644) dX5_store_174 ?_
                  refine lv_icmp_ne (tgt := 196) hx hb dX5_store_176 (by decide) (fun h => absurd c_7 h) (fun _ => ?_)
                  refine lv_aload_n hx hb dX5_store_179 rfl (lv_at hl 4 rfl) ?_
                  refine lv_aload_n hx hb dX5_store_180 rfl (lv_at hl 4 rfl) ?_
                  refine gf_X5_58 X hP dX5_store_181 ?_
                  refine lv_iload hx hb dX5_store_184 (lv_at hl 0 rfl) ?_
                  refine lv_iload_n hx hb dX5_store_186 rfl (lv_at hl 1 rfl) ?_
                  refine go_l (rn_S X (c_X5_mixed l D _ _ (mtime E) true (mx E ((mt E)).toNatClampNeg)) ok_X5_mixed wd_652 ⟨by decide, by decide⟩ hP hD rfl hl.1 rfl (Nat.le_of_ble_eq_true rfl) dX5_store_187 ⟨Nat.zero_le _, Nat.zero_le _⟩) hP hD hS hA (fun H locs hP hD hS => ?_)
                  refine pf_X5_58 X hP hD hS (f_X5_mixed (mtime E) true (mx E ((mt E)).toNatClampNeg)) dX5_store_190 (fun H locs hP hD hS => ?_)
                  refine lv_goto (tgt := 210) hx hb dX5_store_193 (by decide) ?_
                  refine lv_goto (tgt := 221) hx hb dX5_store_210 (by decide) ?_
                  refine lv_iconst (v := (-1 : Int32)) hx hb dX5_store_221 (by decide) ?_
                  exact rmu_i (v := (-1 : Int32)) (F := (f_X5_store sz mo E)) (E1 := (mtime_ E (f_X5_mixed (mtime E) true (mx E ((mt E)).toNatClampNeg)))) (by unfold f_X5_store; rw [if_pos c_1, if_pos c_2, if_pos c_3, if_neg c_4, if_pos c_5, if_neg c_6, if_pos c_7, if_neg c_8]; try rfl) X hP hD hS hAe hr hlk dX5_store_222
              ·
                refine lv_iload_n hx hb dX5_store_154 rfl (lv_at hl 2 rfl) ?_
                refine lv_ldc (v := (33570820 : Int32)) hx hb X.1.2.2.2.1 (X.1.2.2.2.2 _ wd_646) dX5_store_155 ?_
                refine lv_icmp_ne (tgt := 164) hx hb dX5_store_157 (by decide) (fun c_10 => ?_) (fun c_10 => ?_)
                ·
                  refine lv_iconst (v := (0 : Int32)) hx hb dX5_store_164 (by decide) ?_
                  refine lv_istore (lv' := [(4, .int (0 : Int32)), (3, .int (mx E ((mt E)).toNatClampNeg)), (2, .int ((1 : Int32) <<< ((mf E) &&& 31))), (1, .int ((mx E ((ms E)).toNatClampNeg) + ((((mword E) >>> ((25 : Int32) &&& 31)) <<< ((5 : Int32) &&& 31)) ||| (md E)))), (0, .ref (q 0))]) hx hb dX5_store_165 hl (by decide) rfl (fun ls hl => ?_)
                  refine lv_iload_n hx hb dX5_store_167 rfl (lv_at hl 3 rfl) ?_
                  refine lv_ldc (v := (33603576 : Int32)) hx hb X.1.2.2.2.1 (X.1.2.2.2.2 _ wd_643) dX5_store_168 ?_
                  refine lv_icmp_eq (tgt := 179) hx hb dX5_store_170 (by decide) (fun c_11 => ?_) (fun c_11 => ?_)
                  ·
                    refine lv_aload_n hx hb dX5_store_179 rfl (lv_at hl 4 rfl) ?_
                    refine lv_aload_n hx hb dX5_store_180 rfl (lv_at hl 4 rfl) ?_
                    refine gf_X5_58 X hP dX5_store_181 ?_
                    refine lv_iload hx hb dX5_store_184 (lv_at hl 0 rfl) ?_
                    refine lv_iload_n hx hb dX5_store_186 rfl (lv_at hl 1 rfl) ?_
                    refine go_l (rn_S X (c_X5_mixed l D _ _ (mtime E) false (mx E ((mt E)).toNatClampNeg)) ok_X5_mixed wd_652 ⟨by decide, by decide⟩ hP hD rfl hl.1 rfl (Nat.le_of_ble_eq_true rfl) dX5_store_187 ⟨Nat.zero_le _, Nat.zero_le _⟩) hP hD hS hA (fun H locs hP hD hS => ?_)
                    refine pf_X5_58 X hP hD hS (f_X5_mixed (mtime E) false (mx E ((mt E)).toNatClampNeg)) dX5_store_190 (fun H locs hP hD hS => ?_)
                    refine lv_goto (tgt := 210) hx hb dX5_store_193 (by decide) ?_
                    refine lv_goto (tgt := 221) hx hb dX5_store_210 (by decide) ?_
                    refine lv_iconst (v := (-1 : Int32)) hx hb dX5_store_221 (by decide) ?_
                    exact rmu_i (v := (-1 : Int32)) (F := (f_X5_store sz mo E)) (E1 := (mtime_ E (f_X5_mixed (mtime E) false (mx E ((mt E)).toNatClampNeg)))) (by unfold f_X5_store; rw [if_pos c_1, if_pos c_2, if_pos c_3, if_neg c_4, if_pos c_5, if_neg c_6, if_neg c_7, if_neg c_10, if_pos c_11]; try rfl) X hP hD hS hAe hr hlk dX5_store_222
                  ·
                    refine lv_iload_n hx hb dX5_store_173 rfl (lv_at hl 3 rfl) ?_
                    refine lv_ldc (v := (33603580 : Int32)) hx hb X.1.2.2.2.1 (X.1.2.2.2.2 _ wd_644) dX5_store_174 ?_
                    refine lv_icmp_ne (tgt := 196) hx hb dX5_store_176 (by decide) (fun _ => ?_) (fun h => absurd h c_7)
                    refine lv_aload_n hx hb dX5_store_196 rfl (lv_at hl 4 rfl) ?_
                    refine lv_aload_n hx hb dX5_store_197 rfl (lv_at hl 4 rfl) ?_
                    refine gf_X5_64 X hP dX5_store_198 ?_
                    refine lv_iload hx hb dX5_store_201 (lv_at hl 0 rfl) ?_
                    refine lv_iload_n hx hb dX5_store_203 rfl (lv_at hl 1 rfl) ?_
                    refine go_l (rn_S X (c_X5_mixed l D _ _ (mlimit E) false (mx E ((mt E)).toNatClampNeg)) ok_X5_mixed wd_652 ⟨by decide, by decide⟩ hP hD rfl hl.1 rfl (Nat.le_of_ble_eq_true rfl) dX5_store_204 ⟨Nat.zero_le _, Nat.zero_le _⟩) hP hD hS hA (fun H locs hP hD hS => ?_)
                    refine pf_X5_64 X hP hD hS (f_X5_mixed (mlimit E) false (mx E ((mt E)).toNatClampNeg)) dX5_store_207 (fun H locs hP hD hS => ?_)
                    refine lv_goto (tgt := 221) hx hb dX5_store_210 (by decide) ?_
                    refine lv_iconst (v := (-1 : Int32)) hx hb dX5_store_221 (by decide) ?_
                    exact rmu_i (v := (-1 : Int32)) (F := (f_X5_store sz mo E)) (E1 := (mlimit_ E (f_X5_mixed (mlimit E) false (mx E ((mt E)).toNatClampNeg)))) (by unfold f_X5_store; rw [if_pos c_1, if_pos c_2, if_pos c_3, if_neg c_4, if_pos c_5, if_neg c_6, if_neg c_7, if_neg c_10, if_neg c_11]; try rfl) X hP hD hS hAe hr hlk dX5_store_222
                ·
                  refine lv_iconst (v := (1 : Int32)) hx hb dX5_store_160 (by decide) ?_
                  refine lv_goto (tgt := 165) hx hb dX5_store_161 (by decide) ?_
                  refine lv_istore (lv' := [(4, .int (1 : Int32)), (3, .int (mx E ((mt E)).toNatClampNeg)), (2, .int ((1 : Int32) <<< ((mf E) &&& 31))), (1, .int ((mx E ((ms E)).toNatClampNeg) + ((((mword E) >>> ((25 : Int32) &&& 31)) <<< ((5 : Int32) &&& 31)) ||| (md E)))), (0, .ref (q 0))]) hx hb dX5_store_165 hl (by decide) rfl (fun ls hl => ?_)
                  refine lv_iload_n hx hb dX5_store_167 rfl (lv_at hl 3 rfl) ?_
                  refine lv_ldc (v := (33603576 : Int32)) hx hb X.1.2.2.2.1 (X.1.2.2.2.2 _ wd_643) dX5_store_168 ?_
                  refine lv_icmp_eq (tgt := 179) hx hb dX5_store_170 (by decide) (fun c_13 => ?_) (fun c_13 => ?_)
                  ·
                    refine lv_aload_n hx hb dX5_store_179 rfl (lv_at hl 4 rfl) ?_
                    refine lv_aload_n hx hb dX5_store_180 rfl (lv_at hl 4 rfl) ?_
                    refine gf_X5_58 X hP dX5_store_181 ?_
                    refine lv_iload hx hb dX5_store_184 (lv_at hl 0 rfl) ?_
                    refine lv_iload_n hx hb dX5_store_186 rfl (lv_at hl 1 rfl) ?_
                    refine go_l (rn_S X (c_X5_mixed l D _ _ (mtime E) true (mx E ((mt E)).toNatClampNeg)) ok_X5_mixed wd_652 ⟨by decide, by decide⟩ hP hD rfl hl.1 rfl (Nat.le_of_ble_eq_true rfl) dX5_store_187 ⟨Nat.zero_le _, Nat.zero_le _⟩) hP hD hS hA (fun H locs hP hD hS => ?_)
                    refine pf_X5_58 X hP hD hS (f_X5_mixed (mtime E) true (mx E ((mt E)).toNatClampNeg)) dX5_store_190 (fun H locs hP hD hS => ?_)
                    refine lv_goto (tgt := 210) hx hb dX5_store_193 (by decide) ?_
                    refine lv_goto (tgt := 221) hx hb dX5_store_210 (by decide) ?_
                    refine lv_iconst (v := (-1 : Int32)) hx hb dX5_store_221 (by decide) ?_
                    exact rmu_i (v := (-1 : Int32)) (F := (f_X5_store sz mo E)) (E1 := (mtime_ E (f_X5_mixed (mtime E) true (mx E ((mt E)).toNatClampNeg)))) (by unfold f_X5_store; rw [if_pos c_1, if_pos c_2, if_pos c_3, if_neg c_4, if_pos c_5, if_neg c_6, if_neg c_7, if_pos c_10, if_pos c_13]; try rfl) X hP hD hS hAe hr hlk dX5_store_222
                  ·
                    refine lv_iload_n hx hb dX5_store_173 rfl (lv_at hl 3 rfl) ?_
                    refine lv_ldc (v := (33603580 : Int32)) hx hb X.1.2.2.2.1 (X.1.2.2.2.2 _ wd_644) dX5_store_174 ?_
                    refine lv_icmp_ne (tgt := 196) hx hb dX5_store_176 (by decide) (fun _ => ?_) (fun h => absurd h c_7)
                    refine lv_aload_n hx hb dX5_store_196 rfl (lv_at hl 4 rfl) ?_
                    refine lv_aload_n hx hb dX5_store_197 rfl (lv_at hl 4 rfl) ?_
                    refine gf_X5_64 X hP dX5_store_198 ?_
                    refine lv_iload hx hb dX5_store_201 (lv_at hl 0 rfl) ?_
                    refine lv_iload_n hx hb dX5_store_203 rfl (lv_at hl 1 rfl) ?_
                    refine go_l (rn_S X (c_X5_mixed l D _ _ (mlimit E) true (mx E ((mt E)).toNatClampNeg)) ok_X5_mixed wd_652 ⟨by decide, by decide⟩ hP hD rfl hl.1 rfl (Nat.le_of_ble_eq_true rfl) dX5_store_204 ⟨Nat.zero_le _, Nat.zero_le _⟩) hP hD hS hA (fun H locs hP hD hS => ?_)
                    refine pf_X5_64 X hP hD hS (f_X5_mixed (mlimit E) true (mx E ((mt E)).toNatClampNeg)) dX5_store_207 (fun H locs hP hD hS => ?_)
                    refine lv_goto (tgt := 221) hx hb dX5_store_210 (by decide) ?_
                    refine lv_iconst (v := (-1 : Int32)) hx hb dX5_store_221 (by decide) ?_
                    exact rmu_i (v := (-1 : Int32)) (F := (f_X5_store sz mo E)) (E1 := (mlimit_ E (f_X5_mixed (mlimit E) true (mx E ((mt E)).toNatClampNeg)))) (by unfold f_X5_store; rw [if_pos c_1, if_pos c_2, if_pos c_3, if_neg c_4, if_pos c_5, if_neg c_6, if_neg c_7, if_pos c_10, if_neg c_13]; try rfl) X hP hD hS hAe hr hlk dX5_store_222
        ·
          refine lv_aload_n hx hb dX5_store_96 rfl (lv_at hl 3 rfl) ?_
          refine gf_X5_67 X hP dX5_store_97 ?_
          refine lv_aload_n hx hb dX5_store_100 rfl (lv_at hl 3 rfl) ?_
          refine gf_X5_24 X hP dX5_store_101 ?_
          refine lv_icmp_ne (tgt := 109) hx hb dX5_store_104 (by decide) (fun c_15 => ?_) (fun c_15 => ?_)
          ·
            refine lv_aload_n hx hb dX5_store_109 rfl (lv_at hl 3 rfl) ?_
            refine gf_X5_17 X hP dX5_store_110 ?_
            refine lv_aload_n hx hb dX5_store_113 rfl (lv_at hl 3 rfl) ?_
            refine gf_X5_67 X hP dX5_store_114 ?_
            refine lv_iload_n hx hb dX5_store_117 rfl (lv_at hl 0 rfl) ?_
            refine lv_sipush (v := (255 : Int32)) hx hb dX5_store_118 (by decide) ?_
            refine lv_iand hx hb dX5_store_121 ?_
            refine mst_3 X hP hD hS (in_of_snt hk hs c_15) dX5_store_122 (fun H locs hP hD hS => ?_)
            refine lv_aload_n hx hb dX5_store_123 rfl (lv_at hl 3 rfl) ?_
            refine lv_dup hx hb dX5_store_124 rfl ?_
            refine gf_X5_67 X hP dX5_store_125 ?_
            refine tw_eqi (y := (msentMany E)) (gs_msentMany_sent _ _) ?_
            refine lv_iconst (v := (1 : Int32)) hx hb dX5_store_128 (by decide) ?_
            refine lv_iadd hx hb dX5_store_129 ?_
            refine pf_X5_67 X hP hD hS ((msentMany E) + (1 : Int32)) dX5_store_130 (fun H locs hP hD hS => ?_)
            refine lv_goto (tgt := 221) hx hb dX5_store_133 (by decide) ?_
            refine lv_iconst (v := (-1 : Int32)) hx hb dX5_store_221 (by decide) ?_
            exact rmu_i (v := (-1 : Int32)) (F := (f_X5_store sz mo E)) (E1 := (msentMany_ (msent_ E (upd (msent E) ((msentMany E)).toNatClampNeg ((mx E ((mt E)).toNatClampNeg) &&& (255 : Int32)))) ((msentMany E) + (1 : Int32)))) (by unfold f_X5_store; rw [if_pos c_1, if_pos c_2, if_pos c_3, if_pos c_4, if_neg c_15]; try rfl) X hP hD hS hAe hr hlk dX5_store_222
          ·
            refine lv_iconst (v := (4 : Int32)) hx hb dX5_store_107 (by decide) ?_
            exact rmu_i (v := (4 : Int32)) (F := (f_X5_store sz mo E)) (E1 := E) (by unfold f_X5_store; rw [if_pos c_1, if_pos c_2, if_pos c_3, if_pos c_4, if_pos c_15]; try rfl) X hP hD hS hAe hr hlk dX5_store_108
      ·
        refine lv_aload_n hx hb dX5_store_80 rfl (lv_at hl 3 rfl) ?_
        refine lv_iload_n hx hb dX5_store_81 rfl (lv_at hl 2 rfl) ?_
        refine lv_iload_n hx hb dX5_store_82 rfl (lv_at hl 1 rfl) ?_
        refine lv_iload_n hx hb dX5_store_83 rfl (lv_at hl 0 rfl) ?_
        refine go_v (rn_V (ci := 5) (q0 := 0) X (c_X5_put l D q ca sz mo hk E ((mx E ((ms E)).toNatClampNeg) + ((((mword E) >>> ((25 : Int32) &&& 31)) <<< ((5 : Int32) &&& 31)) ||| (md E))) ((1 : Int32) <<< ((mf E) &&& 31)) (mx E ((mt E)).toNatClampNeg) c_3 (st_b hd.2.2.2 c_1)) ok_X5_put wd_564 ⟨by decide, by decide⟩ hP hD rfl rfl rfl hl.1 rfl (Nat.le_of_ble_eq_true rfl) dX5_store_84 ⟨Nat.zero_le _, Nat.zero_le _⟩) hP hD hS hA (fun H locs hP hD hS => ?_)
        refine lv_goto (tgt := 221) hx hb dX5_store_87 (by decide) ?_
        refine lv_iconst (v := (-1 : Int32)) hx hb dX5_store_221 (by decide) ?_
        exact rmu_i (v := (-1 : Int32)) (F := (f_X5_store sz mo E)) (E1 := (f_X5_put sz mo E ((mx E ((ms E)).toNatClampNeg) + ((((mword E) >>> ((25 : Int32) &&& 31)) <<< ((5 : Int32) &&& 31)) ||| (md E))) ((1 : Int32) <<< ((mf E) &&& 31)) (mx E ((mt E)).toNatClampNeg))) (by unfold f_X5_store; rw [if_pos c_1, if_pos c_2, if_neg c_3]; try rfl) X hP hD hS hAe hr hlk dX5_store_222
    ·
      refine lv_aload_n hx hb dX5_store_63 rfl (lv_at hl 3 rfl) ?_
      refine lv_bipush (v := (6 : Int32)) hx hb dX5_store_64 (by decide) ?_
      refine lv_iload_n hx hb dX5_store_66 rfl (lv_at hl 2 rfl) ?_
      refine go_i (rn_V (ci := 5) (q0 := 0) X (c_X5_trap l D q ca sz mo hk E (6 : Int32) ((mx E ((ms E)).toNatClampNeg) + ((((mword E) >>> ((25 : Int32) &&& 31)) <<< ((5 : Int32) &&& 31)) ||| (md E)))) ok_X5_trap wd_592 ⟨by decide, by decide⟩ hP hD rfl rfl rfl hl.1 rfl (Nat.le_of_ble_eq_true rfl) dX5_store_67 ⟨Nat.zero_le _, Nat.zero_le _⟩) hP hD hS hA (fun H locs hP hD hS => ?_)
      exact rmu_i (v := (f_X5_trap sz mo E (6 : Int32) ((mx E ((ms E)).toNatClampNeg) + ((((mword E) >>> ((25 : Int32) &&& 31)) <<< ((5 : Int32) &&& 31)) ||| (md E)))).1) (F := (f_X5_store sz mo E)) (E1 := (f_X5_trap sz mo E (6 : Int32) ((mx E ((ms E)).toNatClampNeg) + ((((mword E) >>> ((25 : Int32) &&& 31)) <<< ((5 : Int32) &&& 31)) ||| (md E)))).2) (by unfold f_X5_store; rw [if_pos c_1, if_neg c_2]; try rfl) X hP hD hS hAe hr hlk dX5_store_70
  ·
    refine lv_aload_n hx hb dX5_store_8 rfl (lv_at hl 0 rfl) ?_
    refine go_i (rn_V (ci := 5) (q0 := 0) X (c_X5_illegal l D q ca sz mo hk E ) ok_X5_illegal wd_621 ⟨by decide, by decide⟩ hP hD rfl rfl rfl hl.1 rfl (Nat.le_of_ble_eq_true rfl) dX5_store_9 ⟨Nat.zero_le _, Nat.zero_le _⟩) hP hD hS hA (fun H locs hP hD hS => ?_)
    exact rmu_i (v := (f_X5_illegal sz mo E).1) (F := (f_X5_store sz mo E)) (E1 := (f_X5_illegal sz mo E).2) (by unfold f_X5_store; rw [if_neg c_1]; try rfl) X hP hD hS hAe hr hlk dX5_store_12
set_option maxHeartbeats 4000000 in
set_option maxRecDepth 100000 in
theorem c_X5_system (l : Launch) (D : va_G) (q : Nat → Nat) (ca : Nat → ClassId) (sz mo : Int32) (hk : MOk sz mo) (E : MS) : Mt l yX5_system cX5_system 1 (some .int) 2 D (tysM ca) [.ref (q 0)] (cwM q ca sz mo E) (QcI D (cwM q ca sz mo E) (cwM q ca sz mo (f_X5_system sz mo E).2) (f_X5_system sz mo E).1) := by
  refine ent (own := RX5) rfl (by decide) (Nat.le_of_ble_eq_true rfl) ?_
  intro p e s m below meth c A ls X hr hlk hmn hAe hA hP hD hS hl
  have hx := X.1.1
  have hb := X.1.2.1
  have hl : lv_has ls 1 [(0, .ref (q 0))] := hl
  refine lv_aload_n hx hb dX5_system_0 rfl (lv_at hl 0 rfl) ?_
  refine gf_X5_118 X hP dX5_system_1 ?_
  by_cases c_1 : (mword E) = (115 : Int32)
  ·
    refine lv_lookup (off := 44) (tgt := 48) hx hb dX5_system_4 (by decide) (by rw [c_1]; decide) (by decide) ?_
    refine lv_aload_n hx hb dX5_system_48 rfl (lv_at hl 0 rfl) ?_
    refine lv_bipush (v := (11 : Int32)) hx hb dX5_system_49 (by decide) ?_
    refine lv_iconst (v := (0 : Int32)) hx hb dX5_system_51 (by decide) ?_
    refine go_i (rn_V (ci := 5) (q0 := 0) X (c_X5_trap l D q ca sz mo hk E (11 : Int32) (0 : Int32)) ok_X5_trap wd_592 ⟨by decide, by decide⟩ hP hD rfl rfl rfl hl.1 rfl (Nat.le_of_ble_eq_true rfl) dX5_system_52 ⟨Nat.zero_le _, Nat.zero_le _⟩) hP hD hS hA (fun H locs hP hD hS => ?_)
    exact rmu_i (v := (f_X5_trap sz mo E (11 : Int32) (0 : Int32)).1) (F := (f_X5_system sz mo E)) (E1 := (f_X5_trap sz mo E (11 : Int32) (0 : Int32)).2) (by unfold f_X5_system; rw [if_pos c_1]; try rfl) X hP hD hS hAe hr hlk dX5_system_55
  by_cases c_2 : (mword E) = (1048691 : Int32)
  ·
    refine lv_lookup (off := 52) (tgt := 56) hx hb dX5_system_4 (by decide) (by rw [c_2]; decide) (by decide) ?_
    refine lv_aload_n hx hb dX5_system_56 rfl (lv_at hl 0 rfl) ?_
    refine lv_iconst (v := (3 : Int32)) hx hb dX5_system_57 (by decide) ?_
    refine lv_aload_n hx hb dX5_system_58 rfl (lv_at hl 0 rfl) ?_
    refine gf_X5_30 X hP dX5_system_59 ?_
    refine go_i (rn_V (ci := 5) (q0 := 0) X (c_X5_trap l D q ca sz mo hk E (3 : Int32) (mpc E)) ok_X5_trap wd_592 ⟨by decide, by decide⟩ hP hD rfl rfl rfl hl.1 rfl (Nat.le_of_ble_eq_true rfl) dX5_system_62 ⟨Nat.zero_le _, Nat.zero_le _⟩) hP hD hS hA (fun H locs hP hD hS => ?_)
    exact rmu_i (v := (f_X5_trap sz mo E (3 : Int32) (mpc E)).1) (F := (f_X5_system sz mo E)) (E1 := (f_X5_trap sz mo E (3 : Int32) (mpc E)).2) (by unfold f_X5_system; rw [if_neg c_1, if_pos c_2]; try rfl) X hP hD hS hAe hr hlk dX5_system_65
  by_cases c_3 : (mword E) = (273678451 : Int32)
  ·
    refine lv_lookup (off := 85) (tgt := 89) hx hb dX5_system_4 (by decide) (by rw [c_3]; decide) (by decide) ?_
    refine lv_aload_n hx hb dX5_system_89 rfl (lv_at hl 0 rfl) ?_
    refine lv_iconst (v := (1 : Int32)) hx hb dX5_system_90 (by decide) ?_
    refine pf_X5_73 X hP hD hS true dX5_system_91 (fun H locs hP hD hS => ?_)
    refine lv_iconst (v := (-1 : Int32)) hx hb dX5_system_94 (by decide) ?_
    exact rmu_i (v := (-1 : Int32)) (F := (f_X5_system sz mo E)) (E1 := (mwaits_ E true)) (by unfold f_X5_system; rw [if_neg c_1, if_neg c_2, if_pos c_3]; try rfl) X hP hD hS hAe hr hlk dX5_system_95
  by_cases c_4 : (mword E) = (807403635 : Int32)
  ·
    refine lv_lookup (off := 62) (tgt := 66) hx hb dX5_system_4 (by decide) (by rw [c_4]; decide) (by decide) ?_
    refine lv_aload_n hx hb dX5_system_66 rfl (lv_at hl 0 rfl) ?_
    refine lv_aload_n hx hb dX5_system_67 rfl (lv_at hl 0 rfl) ?_
    refine gf_X5_49 X hP dX5_system_68 ?_
    refine pf_X5_139 X hP hD hS (mmepc E) dX5_system_71 (fun H locs hP hD hS => ?_)
    refine lv_aload_n hx hb dX5_system_74 rfl (lv_at hl 0 rfl) ?_
    refine lv_aload_n hx hb dX5_system_75 rfl (lv_at hl 0 rfl) ?_
    refine gf_X5_37 X hP dX5_system_76 ?_
    refine tw_eqi (y := (b2i (mmpie E))) (congrArg b2i (gs_mmpie_next _ _)) ?_
    refine pf_X5_33 X hP hD hS (mmpie E) dX5_system_79 (fun H locs hP hD hS => ?_)
    refine lv_aload_n hx hb dX5_system_82 rfl (lv_at hl 0 rfl) ?_
    refine lv_iconst (v := (1 : Int32)) hx hb dX5_system_83 (by decide) ?_
    refine pf_X5_37 X hP hD hS true dX5_system_84 (fun H locs hP hD hS => ?_)
    refine lv_iconst (v := (-1 : Int32)) hx hb dX5_system_87 (by decide) ?_
    exact rmu_i (v := (-1 : Int32)) (F := (f_X5_system sz mo E)) (E1 := (mmpie_ (mmie_ (mnext_ E (mmepc E)) (mmpie E)) true)) (by unfold f_X5_system; rw [if_neg c_1, if_neg c_2, if_neg c_3, if_pos c_4]; try rfl) X hP hD hS hAe hr hlk dX5_system_88
  refine lv_lookup (off := 92) (tgt := 96) hx hb dX5_system_4 (by decide) ((lv_osw c_1 (by decide)).trans ((lv_osw c_2 (by decide)).trans ((lv_osw c_3 (by decide)).trans ((lv_osw c_4 (by decide)).trans rfl)))) (by decide) ?_
  refine lv_aload_n hx hb dX5_system_96 rfl (lv_at hl 0 rfl) ?_
  refine go_i (rn_V (ci := 5) (q0 := 0) X (c_X5_illegal l D q ca sz mo hk E ) ok_X5_illegal wd_621 ⟨by decide, by decide⟩ hP hD rfl rfl rfl hl.1 rfl (Nat.le_of_ble_eq_true rfl) dX5_system_97 ⟨Nat.zero_le _, Nat.zero_le _⟩) hP hD hS hA (fun H locs hP hD hS => ?_)
  exact rmu_i (v := (f_X5_illegal sz mo E).1) (F := (f_X5_system sz mo E)) (E1 := (f_X5_illegal sz mo E).2) (by unfold f_X5_system; rw [if_neg c_1, if_neg c_2, if_neg c_3, if_neg c_4]; try rfl) X hP hD hS hAe hr hlk dX5_system_100
