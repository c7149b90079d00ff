/-! contracts: X4_step X4_tick X4_told -/
set_option maxHeartbeats 4000000 in
set_option maxRecDepth 100000 in
theorem c_X4_step (l : Launch) (D : va_G) (q : Nat → Nat) (ca : Nat → ClassId) (nW nB : Nat) (hk : KOk nW nB) (E : KS) (hs : ¬ ksent E < 0) : Mt l yX4_step cX4_step 1 (some .int) 7 D (tysK ca) [.ref (q 0)] (cwK q ca nW nB E) (QcI D (cwK q ca nW nB E) (cwK q ca nW nB (f_X4_step nW nB E).2) (f_X4_step nW nB E).1) := by
  refine ent (own := RX4) rfl (by decide) (Nat.le_of_ble_eq_true rfl) ?_
  intro p e s m below meth c A ls X hr hlk hmn hAe hA hP hD hS hl
  have hx := X.1.1
  have hb := X.1.2.1
  have hl : lv_has ls 1 [(0, .ref (q 0))] := hl
  refine lv_aload_n hx hb dX4_step_0 rfl (lv_at hl 0 rfl) ?_
  refine lv_aload_n hx hb dX4_step_1 rfl (lv_at hl 0 rfl) ?_
  refine go_i (rn_V (ci := 4) (q0 := 0) X (c_X4_stepOnce l D q ca nW nB hk E hs) ok_X4_stepOnce wd_217 ⟨by decide, by decide⟩ hP hD rfl rfl rfl hl.1 rfl (Nat.le_of_ble_eq_true rfl) dX4_step_2 ⟨Nat.zero_le _, Nat.zero_le _⟩) hP hD hS hA (fun H locs hP hD hS => ?_)
  refine pf_X4_68 X hP hD hS (f_X4_stepOnce nW nB E).1 dX4_step_5 (fun H locs hP hD hS => ?_)
  refine lv_aload_n hx hb dX4_step_8 rfl (lv_at hl 0 rfl) ?_
  refine gf_X4_68 X hP dX4_step_9 ?_
  refine tw_eqi (y := (f_X4_stepOnce nW nB E).1) (gs_klatest_latest _ _) ?_
  exact rku_i (v := (f_X4_stepOnce nW nB E).1) (F := (f_X4_step nW nB E)) (E1 := (klatest_ (f_X4_stepOnce nW nB E).2 (f_X4_stepOnce nW nB E).1)) rfl X hP hD hS hAe hr hlk dX4_step_12
set_option maxHeartbeats 4000000 in
set_option maxRecDepth 100000 in
theorem c_X4_tick (l : Launch) (D : va_G) (q : Nat → Nat) (ca : Nat → ClassId) (nW nB : Nat) (hk : KOk nW nB) (E : KS) : Mt l yX4_tick cX4_tick 1 none 1 D (tysK ca) [.ref (q 0)] (cwK q ca nW nB E) (QcV D (cwK q ca nW nB E) (cwK q ca nW nB (f_X4_tick nW nB E))) := by
  refine ent (own := RX4) rfl (by decide) (Nat.le_of_ble_eq_true rfl) ?_
  intro p e s m below meth c A ls X hr hlk hmn hAe hA hP hD hS hl
  have hx := X.1.1
  have hb := X.1.2.1
  have hl : lv_has ls 1 [(0, .ref (q 0))] := hl
  refine lv_aload_n hx hb dX4_tick_0 rfl (lv_at hl 0 rfl) ?_
  refine gf_X4_31 X hP dX4_tick_1 ?_
  refine go_v (rn_V (ci := 3) (q0 := 3) X (c_X3_advance l D q ca nW nB hk E ) ok_X3_advance wd_418 ⟨by decide, by decide⟩ hP hD rfl rfl rfl hl.1 rfl (Nat.le_of_ble_eq_true rfl) dX4_tick_4 ⟨Nat.zero_le _, Nat.zero_le _⟩) hP hD hS hA (fun H locs hP hD hS => ?_)
  exact rku_v (F := (f_X4_tick nW nB E)) (E1 := (f_X3_advance nW nB E)) rfl X hP hD hS hAe hr hlk dX4_tick_7
set_option maxHeartbeats 4000000 in
set_option maxRecDepth 100000 in
theorem c_X4_told (l : Launch) (D : va_G) (q : Nat → Nat) (ca : Nat → ClassId) (nW nB : Nat) (hk : KOk nW nB) (E : KS) (a1 : Int32) : Mt l yX4_told cX4_told 2 (some .long) 0 D (tysK ca) [.ref (q 0), .int a1] (cwK q ca nW nB E) (QcL D (cwK q ca nW nB E) (cwK q ca nW nB E) (f_X4_told nW nB E a1)) := by
  refine ent (own := RX4) rfl (by decide) (Nat.le_of_ble_eq_true rfl) ?_
  intro p e s m below meth c A ls X hr hlk hmn hAe hA hP hD hS hl
  have hx := X.1.1
  have hb := X.1.2.1
  have hl : lv_has ls 2 [(0, .ref (q 0)), (1, .int a1)] := hl
  refine lv_iload_n hx hb dX4_told_0 rfl (lv_at hl 1 rfl) ?_
  by_cases c_1 : a1 = (0 : Int32)
  ·
    refine lv_tableIn (off := 35) (tgt := 36) hx hb dX4_told_1 (by rw [c_1]; decide) (by rw [c_1]; decide) (by rw [c_1]; decide) (by decide) ?_
    refine lv_aload_n hx hb dX4_told_36 rfl (lv_at hl 0 rfl) ?_
    refine gf_X4_31 X hP dX4_told_37 ?_
    refine gf_X4_105 X hP dX4_told_40 ?_
    exact rg_l (v := (ktime E)) (F := (f_X4_told nW nB E a1)) (by unfold f_X4_told; rw [if_pos c_1]; try rfl) X hP hD hS hAe hr hlk dX4_told_43
  by_cases c_2 : a1 = (1 : Int32)
  ·
    refine lv_tableIn (off := 43) (tgt := 44) hx hb dX4_told_1 (by rw [c_2]; decide) (by rw [c_2]; decide) (by rw [c_2]; decide) (by decide) ?_
    refine lv_aload_n hx hb dX4_told_44 rfl (lv_at hl 0 rfl) ?_
    refine gf_X4_31 X hP dX4_told_45 ?_
    refine gf_X4_108 X hP dX4_told_48 ?_
    exact rg_l (v := (klimit E)) (F := (f_X4_told nW nB E a1)) (by unfold f_X4_told; rw [if_neg c_1, if_pos c_2]; try rfl) X hP hD hS hAe hr hlk dX4_told_51
  by_cases c_3 : a1 = (2 : Int32)
  ·
    refine lv_tableIn (off := 51) (tgt := 52) hx hb dX4_told_1 (by rw [c_3]; decide) (by rw [c_3]; decide) (by rw [c_3]; decide) (by decide) ?_
    refine lv_aload_n hx hb dX4_told_52 rfl (lv_at hl 0 rfl) ?_
    refine gf_X4_64 X hP dX4_told_53 ?_
    exact rg_l (v := (kretired E)) (F := (f_X4_told nW nB E a1)) (by unfold f_X4_told; rw [if_neg c_1, if_neg c_2, if_pos c_3]; try rfl) X hP hD hS hAe hr hlk dX4_told_56
  by_cases c_4 : a1 = (3 : Int32)
  ·
    refine lv_tableIn (off := 56) (tgt := 57) hx hb dX4_told_1 (by rw [c_4]; decide) (by rw [c_4]; decide) (by rw [c_4]; decide) (by decide) ?_
    refine lv_aload_n hx hb dX4_told_57 rfl (lv_at hl 0 rfl) ?_
    refine gf_X4_60 X hP dX4_told_58 ?_
    refine lv_if_eq (tgt := 68) hx hb dX4_told_61 (by decide) (fun c_5 => ?_) (fun c_5 => ?_)
    ·
      refine lv_lconst (v := (0 : Int64)) hx hb dX4_told_68 (by decide) ?_
      exact rg_l (v := (0 : Int64)) (F := (f_X4_told nW nB E a1)) (by unfold f_X4_told; rw [if_neg c_1, if_neg c_2, if_neg c_3, if_pos c_4, if_pos c_5]; try rfl) X hP hD hS hAe hr hlk dX4_told_69
    ·
      refine lv_lconst (v := (1 : Int64)) hx hb dX4_told_64 (by decide) ?_
      refine lv_goto (tgt := 69) hx hb dX4_told_65 (by decide) ?_
      exact rg_l (v := (1 : Int64)) (F := (f_X4_told nW nB E a1)) (by unfold f_X4_told; rw [if_neg c_1, if_neg c_2, if_neg c_3, if_pos c_4, if_neg c_5]; try rfl) X hP hD hS hAe hr hlk dX4_told_69
  by_cases c_6 : a1 = (4 : Int32)
  ·
    refine lv_tableIn (off := 69) (tgt := 70) hx hb dX4_told_1 (by rw [c_6]; decide) (by rw [c_6]; decide) (by rw [c_6]; decide) (by decide) ?_
    refine lv_aload_n hx hb dX4_told_70 rfl (lv_at hl 0 rfl) ?_
    refine gf_X4_68 X hP dX4_told_71 ?_
    refine lv_i2l (v := ((klatest E)).toInt64) hx hb dX4_told_74 rfl ?_
    exact rg_l (v := ((klatest E)).toInt64) (F := (f_X4_told nW nB E a1)) (by unfold f_X4_told; rw [if_neg c_1, if_neg c_2, if_neg c_3, if_neg c_4, if_pos c_6]; try rfl) X hP hD hS hAe hr hlk dX4_told_75
  refine lv_tableOut (tgt := 76) hx hb dX4_told_1 (by have := lv_neT (a := 0) c_1 (by decide); have := lv_neT (a := 1) c_2 (by decide); have := lv_neT (a := 2) c_3 (by decide); have := lv_neT (a := 3) c_4 (by decide); have := lv_neT (a := 4) c_6 (by decide); omega) (by decide) ?_
  refine lv_lconst (v := (0 : Int64)) hx hb dX4_told_76 (by decide) ?_
  exact rg_l (v := (0 : Int64)) (F := (f_X4_told nW nB E a1)) (by unfold f_X4_told; rw [if_neg c_1, if_neg c_2, if_neg c_3, if_neg c_4, if_neg c_6]; try rfl) X hP hD hS hAe hr hlk dX4_told_77
