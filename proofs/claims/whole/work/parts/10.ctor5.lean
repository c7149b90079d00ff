theorem wd_463 : (.constant RX5 7 (65536) : Cond) ∈ big := mb 463 (by decide +kernel) rfl
/-! the reference is made -/
def nearF (a : Int32) : Int32 := if (64 : Int32) ≤ a then (if a ≤ (65536 : Int32) then a else (65536 : Int32)) else (64 : Int32)
def mostF (a : Int32) : Int32 := if 0 ≤ a then (if a ≤ (4096 : Int32) then a else (4096 : Int32)) else (0 : Int32)
set_option maxHeartbeats 4000000 in
set_option maxRecDepth 100000 in
theorem c_X5_init (l : Launch) (D : va_G) (h0 : Nat) (a1 a2 : Int32) (hk : MOk (nearF a1 &&& (-4 : Int32)) (mostF a2)) : Ma l yX5_init cX5_init 4 2 3 69664 D [] [.ref h0, .int a1, .int a2] [(h0, .inr (5, [.int 0, .int 0, .null, .null, .int 0, .int 0, .int 0, .int 0, .int 0, .int 0, .int 0, .int 0, .int 0, .long 0, .long 0, .null, .int 0, .long 0, .int 0, .int 0, .int 0, .int 0, .int 0, .int 0, .int 0, .int 0, .int 0]))] (fun sz => va_Qv (fun (_ : (Nat → Nat) × (Nat → ClassId)) => True) (fun u t => u.1 0 = h0 ∧ va_P D vwCl (cwM u.1 u.2 (nearF a1 &&& (-4 : Int32)) (mostF a2) (f_X5_reset (nearF a1 &&& (-4 : Int32)) (mostF a2) ME0)) t.heap ∧ va_K D vwCl (tysM u.2) t ∧ va_D (va_A [(h0, .inr (5, [.int 0, .int 0, .null, .null, .int 0, .int 0, .int 0, .int 0, .int 0, .int 0, .int 0, .int 0, .int 0, .long 0, .long 0, .null, .int 0, .long 0, .int 0, .int 0, .int 0, .int 0, .int 0, .int 0, .int 0, .int 0, .int 0]))] sz) (cwM u.1 u.2 (nearF a1 &&& (-4 : Int32)) (mostF a2) (f_X5_reset (nearF a1 &&& (-4 : Int32)) (mostF a2) ME0))) (va_A [(h0, .inr (5, [.int 0, .int 0, .null, .null, .int 0, .int 0, .int 0, .int 0, .int 0, .int 0, .int 0, .int 0, .int 0, .long 0, .long 0, .null, .int 0, .long 0, .int 0, .int 0, .int 0, .int 0, .int 0, .int 0, .int 0, .int 0, .int 0]))] sz)) := by
  refine entA (own := RX5) rfl (by decide) (Nat.le_of_ble_eq_true rfl) ?_
  intro p e s m below meth c A ls X hr hlk hmn hAe hA hP hD hS hl
  have hx := X.1.1
  have hb := X.1.2.1
  have hts := X.1.2.2.2.2
  have hown := X.1.2.2.2.1
  have hml := X.1.2.2.1
  have hK := X.2
  have hl : lv_has ls 4 [(0, .ref h0), (1, .int a1), (2, .int a2)] := hl
  refine lv_aload_n hx hb dX5_init_0 rfl (lv_at hl 0 rfl) ?_
  refine W.objInit hx hb hown (hts _ wd_462) (hts _ wd_55) (hts _ wd_56) rfl (by rw [hml]; exact hl.1) rfl dX5_init_1 (Nat.le_of_ble_eq_true rfl) (Nat.le_of_ble_eq_true rfl) ?_
  refine W.eq (g2 := F0 m 4 ls []) rfl ?_
  refine lv_aload_n hx hb dX5_init_4 rfl (lv_at hl 0 rfl) ?_
  refine lv_ldc (v := (65536 : Int32)) hx hb hown (hts _ wd_463) dX5_init_5 ?_
  refine va_newa (atype := .int) (N' := 65536) (a0 := (65536, .inl (fun _ => 0))) hx hb (hts _ wd_74) rfl hK hP hD hS hA (fun cA => rfl) (by decide) (by decide) (by decide) (by show (0 + 1 : Nat) ≤ 3; decide) (by show (0 + 65536 : Nat) ≤ 69664; decide) dX5_init_7 (fun q1 c1 H hK hP hD hS => ?_)
  have hP : va_P D vwCl [(h0, .inr (5, [.int 0, .int 0, .null, .null, .int 0, .int 0, .int 0, .int 0, .int 0, .int 0, .int 0, .int 0, .int 0, .long 0, .long 0, .null, .int 0, .long 0, .int 0, .int 0, .int 0, .int 0, .int 0, .int 0, .int 0, .int 0, .int 0])), (q1, .inl (c1, 65536, .inl (fun _ => 0)))] H := hP
  have hD : va_D A [(h0, .inr (5, [.int 0, .int 0, .null, .null, .int 0, .int 0, .int 0, .int 0, .int 0, .int 0, .int 0, .int 0, .int 0, .long 0, .long 0, .null, .int 0, .long 0, .int 0, .int 0, .int 0, .int 0, .int 0, .int 0, .int 0, .int 0, .int 0])), (q1, .inl (c1, 65536, .inl (fun _ => 0)))] := hD
  have hK : va_K D vwCl [(c1, .int)] s := hK
  refine W.widen (k := 1) (n := 65536) (by omega) (by omega) ?_
  refine va_putF (D := D) (ci := 5) (v := .ref q1) (ty := .array .int) (C := RX5) (T := TX5) (N := 27) hx hb hts inX5 tyX5 tyX5_ok nmX5 hown hK hP hD hS 0 rfl rfl 2 (by decide) (hts _ wd_471) (fun _ h9 => h9) rfl hmn rfl (by decide +kernel) rfl rfl (Nat.le_of_ble_eq_true rfl) dX5_init_9 (fun H locs hP hD hS => ?_)
  have hP : va_P D vwCl [(h0, .inr (5, [.int 0, .int 0, .ref q1, .null, .int 0, .int 0, .int 0, .int 0, .int 0, .int 0, .int 0, .int 0, .int 0, .long 0, .long 0, .null, .int 0, .long 0, .int 0, .int 0, .int 0, .int 0, .int 0, .int 0, .int 0, .int 0, .int 0])), (q1, .inl (c1, 65536, .inl (fun _ => 0)))] H := hP
  have hD : va_D A [(h0, .inr (5, [.int 0, .int 0, .ref q1, .null, .int 0, .int 0, .int 0, .int 0, .int 0, .int 0, .int 0, .int 0, .int 0, .long 0, .long 0, .null, .int 0, .long 0, .int 0, .int 0, .int 0, .int 0, .int 0, .int 0, .int 0, .int 0, .int 0])), (q1, .inl (c1, 65536, .inl (fun _ => 0)))] := hD
  refine lv_aload_n hx hb dX5_init_12 rfl (lv_at hl 0 rfl) ?_
  refine lv_bipush (v := (32 : Int32)) hx hb dX5_init_13 (by decide) ?_
  refine va_newa (atype := .int) (N' := 32) (a0 := (32, .inl (fun _ => 0))) hx hb (hts _ wd_74) rfl hK hP hD hS hA (fun cA => rfl) (by decide) (by decide) (by decide) (by show (1 + 1 : Nat) ≤ 3; decide) (by show (65536 + 32 : Nat) ≤ 69664; decide) dX5_init_15 (fun q2 c2 H hK hP hD hS => ?_)
  have hP : va_P D vwCl [(h0, .inr (5, [.int 0, .int 0, .ref q1, .null, .int 0, .int 0, .int 0, .int 0, .int 0, .int 0, .int 0, .int 0, .int 0, .long 0, .long 0, .null, .int 0, .long 0, .int 0, .int 0, .int 0, .int 0, .int 0, .int 0, .int 0, .int 0, .int 0])), (q1, .inl (c1, 65536, .inl (fun _ => 0))), (q2, .inl (c2, 32, .inl (fun _ => 0)))] H := hP
  have hD : va_D A [(h0, .inr (5, [.int 0, .int 0, .ref q1, .null, .int 0, .int 0, .int 0, .int 0, .int 0, .int 0, .int 0, .int 0, .int 0, .long 0, .long 0, .null, .int 0, .long 0, .int 0, .int 0, .int 0, .int 0, .int 0, .int 0, .int 0, .int 0, .int 0])), (q1, .inl (c1, 65536, .inl (fun _ => 0))), (q2, .inl (c2, 32, .inl (fun _ => 0)))] := hD
  have hK : va_K D vwCl [(c1, .int), (c2, .int)] s := hK
  refine W.widen (k := 2) (n := 65568) (by omega) (by omega) ?_
  refine va_putF (D := D) (ci := 5) (v := .ref q2) (ty := .array .int) (C := RX5) (T := TX5) (N := 27) hx hb hts inX5 tyX5 tyX5_ok nmX5 hown hK hP hD hS 0 rfl rfl 3 (by decide) (hts _ wd_472) (fun _ h9 => h9) rfl hmn rfl (by decide +kernel) rfl rfl (Nat.le_of_ble_eq_true rfl) dX5_init_17 (fun H locs hP hD hS => ?_)
  have hP : va_P D vwCl [(h0, .inr (5, [.int 0, .int 0, .ref q1, .ref q2, .int 0, .int 0, .int 0, .int 0, .int 0, .int 0, .int 0, .int 0, .int 0, .long 0, .long 0, .null, .int 0, .long 0, .int 0, .int 0, .int 0, .int 0, .int 0, .int 0, .int 0, .int 0, .int 0])), (q1, .inl (c1, 65536, .inl (fun _ => 0))), (q2, .inl (c2, 32, .inl (fun _ => 0)))] H := hP
  have hD : va_D A [(h0, .inr (5, [.int 0, .int 0, .ref q1, .ref q2, .int 0, .int 0, .int 0, .int 0, .int 0, .int 0, .int 0, .int 0, .int 0, .long 0, .long 0, .null, .int 0, .long 0, .int 0, .int 0, .int 0, .int 0, .int 0, .int 0, .int 0, .int 0, .int 0])), (q1, .inl (c1, 65536, .inl (fun _ => 0))), (q2, .inl (c2, 32, .inl (fun _ => 0)))] := hD
  refine lv_aload_n hx hb dX5_init_20 rfl (lv_at hl 0 rfl) ?_
  refine lv_sipush (v := (4096 : Int32)) hx hb dX5_init_21 (by decide) ?_
  refine va_newa (atype := .int) (N' := 4096) (a0 := (4096, .inl (fun _ => 0))) hx hb (hts _ wd_74) rfl hK hP hD hS hA (fun cA => rfl) (by decide) (by decide) (by decide) (by show (2 + 1 : Nat) ≤ 3; decide) (by show (65568 + 4096 : Nat) ≤ 69664; decide) dX5_init_24 (fun q3 c3 H hK hP hD hS => ?_)
  have hP : va_P D vwCl [(h0, .inr (5, [.int 0, .int 0, .ref q1, .ref q2, .int 0, .int 0, .int 0, .int 0, .int 0, .int 0, .int 0, .int 0, .int 0, .long 0, .long 0, .null, .int 0, .long 0, .int 0, .int 0, .int 0, .int 0, .int 0, .int 0, .int 0, .int 0, .int 0])), (q1, .inl (c1, 65536, .inl (fun _ => 0))), (q2, .inl (c2, 32, .inl (fun _ => 0))), (q3, .inl (c3, 4096, .inl (fun _ => 0)))] H := hP
  have hD : va_D A [(h0, .inr (5, [.int 0, .int 0, .ref q1, .ref q2, .int 0, .int 0, .int 0, .int 0, .int 0, .int 0, .int 0, .int 0, .int 0, .long 0, .long 0, .null, .int 0, .long 0, .int 0, .int 0, .int 0, .int 0, .int 0, .int 0, .int 0, .int 0, .int 0])), (q1, .inl (c1, 65536, .inl (fun _ => 0))), (q2, .inl (c2, 32, .inl (fun _ => 0))), (q3, .inl (c3, 4096, .inl (fun _ => 0)))] := hD
  have hK : va_K D vwCl [(c1, .int), (c2, .int), (c3, .int)] s := hK
  refine W.widen (k := 3) (n := 69664) (by omega) (by omega) ?_
  refine va_putF (D := D) (ci := 5) (v := .ref q3) (ty := .array .int) (C := RX5) (T := TX5) (N := 27) hx hb hts inX5 tyX5 tyX5_ok nmX5 hown hK hP hD hS 0 rfl rfl 15 (by decide) (hts _ wd_484) (fun _ h9 => h9) rfl hmn rfl (by decide +kernel) rfl rfl (Nat.le_of_ble_eq_true rfl) dX5_init_26 (fun H locs hP hD hS => ?_)
  have hP : va_P D vwCl [(h0, .inr (5, [.int 0, .int 0, .ref q1, .ref q2, .int 0, .int 0, .int 0, .int 0, .int 0, .int 0, .int 0, .int 0, .int 0, .long 0, .long 0, .ref q3, .int 0, .long 0, .int 0, .int 0, .int 0, .int 0, .int 0, .int 0, .int 0, .int 0, .int 0])), (q1, .inl (c1, 65536, .inl (fun _ => 0))), (q2, .inl (c2, 32, .inl (fun _ => 0))), (q3, .inl (c3, 4096, .inl (fun _ => 0)))] H := hP
  have hD : va_D A [(h0, .inr (5, [.int 0, .int 0, .ref q1, .ref q2, .int 0, .int 0, .int 0, .int 0, .int 0, .int 0, .int 0, .int 0, .int 0, .long 0, .long 0, .ref q3, .int 0, .long 0, .int 0, .int 0, .int 0, .int 0, .int 0, .int 0, .int 0, .int 0, .int 0])), (q1, .inl (c1, 65536, .inl (fun _ => 0))), (q2, .inl (c2, 32, .inl (fun _ => 0))), (q3, .inl (c3, 4096, .inl (fun _ => 0)))] := hD
  have kN : ∀ v : Int32, v = nearF a1 → W p l e (rma 2 3 69664) s m [Value.ref h0, .int a1, .int a2].toArray below meth c H locs 3 69664 (MQ below ((fun sz => va_Qv (fun (_ : (Nat → Nat) × (Nat → ClassId)) => True) (fun u t => u.1 0 = h0 ∧ va_P D vwCl (cwM u.1 u.2 (nearF a1 &&& (-4 : Int32)) (mostF a2) (f_X5_reset (nearF a1 &&& (-4 : Int32)) (mostF a2) ME0)) t.heap ∧ va_K D vwCl (tysM u.2) t ∧ va_D (va_A [(h0, .inr (5, [.int 0, .int 0, .null, .null, .int 0, .int 0, .int 0, .int 0, .int 0, .int 0, .int 0, .int 0, .int 0, .long 0, .long 0, .null, .int 0, .long 0, .int 0, .int 0, .int 0, .int 0, .int 0, .int 0, .int 0, .int 0, .int 0]))] sz) (cwM u.1 u.2 (nearF a1 &&& (-4 : Int32)) (mostF a2) (f_X5_reset (nearF a1 &&& (-4 : Int32)) (mostF a2) ME0))) (va_A [(h0, .inr (5, [.int 0, .int 0, .null, .null, .int 0, .int 0, .int 0, .int 0, .int 0, .int 0, .int 0, .int 0, .int 0, .long 0, .long 0, .null, .int 0, .long 0, .int 0, .int 0, .int 0, .int 0, .int 0, .int 0, .int 0, .int 0, .int 0]))] sz)) s.heap.size) [Value.ref h0, .int a1, .int a2].toArray s 3 69664 A) (F0 m 52 ls [.int v]) := by
    intro v ev
    subst ev
    refine lv_istore_n (lv' := [(3, .int (nearF a1)), (0, .ref h0), (1, .int a1), (2, .int a2)]) hx hb dX5_init_52 rfl hl (by decide) rfl (fun ls hl => ?_)
    refine lv_aload_n hx hb dX5_init_53 rfl (lv_at hl 1 rfl) ?_
    refine lv_iload_n hx hb dX5_init_54 rfl (lv_at hl 0 rfl) ?_
    refine lv_bipush (v := (-4 : Int32)) hx hb dX5_init_55 (by decide) ?_
    refine lv_iand hx hb dX5_init_57 ?_
    refine va_putF (D := D) (ci := 5) (v := .int (nearF a1 &&& (-4 : Int32))) (ty := .int) (C := RX5) (T := TX5) (N := 27) hx hb hts inX5 tyX5 tyX5_ok nmX5 hown hK hP hD hS 0 rfl rfl 0 (by decide) (hts _ wd_469) (fun _ h9 => h9) rfl hmn rfl (by decide +kernel) rfl rfl (Nat.le_of_ble_eq_true rfl) dX5_init_58 (fun H locs hP hD hS => ?_)
    have hP : va_P D vwCl [(h0, .inr (5, [.int (nearF a1 &&& (-4 : Int32)), .int 0, .ref q1, .ref q2, .int 0, .int 0, .int 0, .int 0, .int 0, .int 0, .int 0, .int 0, .int 0, .long 0, .long 0, .ref q3, .int 0, .long 0, .int 0, .int 0, .int 0, .int 0, .int 0, .int 0, .int 0, .int 0, .int 0])), (q1, .inl (c1, 65536, .inl (fun _ => 0))), (q2, .inl (c2, 32, .inl (fun _ => 0))), (q3, .inl (c3, 4096, .inl (fun _ => 0)))] H := hP
    have hD : va_D A [(h0, .inr (5, [.int (nearF a1 &&& (-4 : Int32)), .int 0, .ref q1, .ref q2, .int 0, .int 0, .int 0, .int 0, .int 0, .int 0, .int 0, .int 0, .int 0, .long 0, .long 0, .ref q3, .int 0, .long 0, .int 0, .int 0, .int 0, .int 0, .int 0, .int 0, .int 0, .int 0, .int 0])), (q1, .inl (c1, 65536, .inl (fun _ => 0))), (q2, .inl (c2, 32, .inl (fun _ => 0))), (q3, .inl (c3, 4096, .inl (fun _ => 0)))] := hD
    refine lv_aload_n hx hb dX5_init_61 rfl (lv_at hl 1 rfl) ?_
    have kM : ∀ v : Int32, v = mostF a2 → W p l e (rma 2 3 69664) s m [Value.ref h0, .int a1, .int a2].toArray below meth c H locs 3 69664 (MQ below ((fun sz => va_Qv (fun (_ : (Nat → Nat) × (Nat → ClassId)) => True) (fun u t => u.1 0 = h0 ∧ va_P D vwCl (cwM u.1 u.2 (nearF a1 &&& (-4 : Int32)) (mostF a2) (f_X5_reset (nearF a1 &&& (-4 : Int32)) (mostF a2) ME0)) t.heap ∧ va_K D vwCl (tysM u.2) t ∧ va_D (va_A [(h0, .inr (5, [.int 0, .int 0, .null, .null, .int 0, .int 0, .int 0, .int 0, .int 0, .int 0, .int 0, .int 0, .int 0, .long 0, .long 0, .null, .int 0, .long 0, .int 0, .int 0, .int 0, .int 0, .int 0, .int 0, .int 0, .int 0, .int 0]))] sz) (cwM u.1 u.2 (nearF a1 &&& (-4 : Int32)) (mostF a2) (f_X5_reset (nearF a1 &&& (-4 : Int32)) (mostF a2) ME0))) (va_A [(h0, .inr (5, [.int 0, .int 0, .null, .null, .int 0, .int 0, .int 0, .int 0, .int 0, .int 0, .int 0, .int 0, .int 0, .long 0, .long 0, .null, .int 0, .long 0, .int 0, .int 0, .int 0, .int 0, .int 0, .int 0, .int 0, .int 0, .int 0]))] sz)) s.heap.size) [Value.ref h0, .int a1, .int a2].toArray s 3 69664 A) (F0 m 84 ls [.int v, .ref h0]) := by
      intro v ev
      subst ev
      refine va_putF (D := D) (ci := 5) (v := .int (mostF a2)) (ty := .int) (C := RX5) (T := TX5) (N := 27) hx hb hts inX5 tyX5 tyX5_ok nmX5 hown hK hP hD hS 0 rfl rfl 1 (by decide) (hts _ wd_470) (fun _ h9 => h9) rfl hmn rfl (by decide +kernel) rfl rfl (Nat.le_of_ble_eq_true rfl) dX5_init_84 (fun H locs hP hD hS => ?_)
      have hP : va_P D vwCl [(h0, .inr (5, [.int (nearF a1 &&& (-4 : Int32)), .int (mostF a2), .ref q1, .ref q2, .int 0, .int 0, .int 0, .int 0, .int 0, .int 0, .int 0, .int 0, .int 0, .long 0, .long 0, .ref q3, .int 0, .long 0, .int 0, .int 0, .int 0, .int 0, .int 0, .int 0, .int 0, .int 0, .int 0])), (q1, .inl (c1, 65536, .inl (fun _ => 0))), (q2, .inl (c2, 32, .inl (fun _ => 0))), (q3, .inl (c3, 4096, .inl (fun _ => 0)))] H := hP
      have hD : va_D A [(h0, .inr (5, [.int (nearF a1 &&& (-4 : Int32)), .int (mostF a2), .ref q1, .ref q2, .int 0, .int 0, .int 0, .int 0, .int 0, .int 0, .int 0, .int 0, .int 0, .long 0, .long 0, .ref q3, .int 0, .long 0, .int 0, .int 0, .int 0, .int 0, .int 0, .int 0, .int 0, .int 0, .int 0])), (q1, .inl (c1, 65536, .inl (fun _ => 0))), (q2, .inl (c2, 32, .inl (fun _ => 0))), (q3, .inl (c3, 4096, .inl (fun _ => 0)))] := hD
      have hP : va_P D vwCl (cwM (qf h0 q1 q2 q3 0 0 0 0) (cf c1 c2 c3) (nearF a1 &&& (-4 : Int32)) (mostF a2) ME0) H := hP
      have hD : va_D A (cwM (qf h0 q1 q2 q3 0 0 0 0) (cf c1 c2 c3) (nearF a1 &&& (-4 : Int32)) (mostF a2) ME0) := hD
      have hK : va_K D vwCl (tysM (cf c1 c2 c3)) s := hK
      have X : Cx p m c cX5_init 4 s [Value.ref h0, .int a1, .int a2].toArray RX5 D (tysM (cf c1 c2 c3)) := ⟨X.1, hK⟩
      refine lv_aload_n hx hb dX5_init_87 rfl (lv_at hl 1 rfl) ?_
      refine go_v (rn_V (ci := 5) (q0 := 0) X (c_X5_reset l D (qf h0 q1 q2 q3 0 0 0 0) (cf c1 c2 c3) (nearF a1 &&& (-4 : Int32)) (mostF a2) hk ME0) ok_X5_reset wd_464 ⟨by decide, by decide⟩ hP hD rfl rfl rfl hl.1 rfl (Nat.le_of_ble_eq_true rfl) dX5_init_88 ⟨by show (3 : Nat) ≤ 3; decide, by show (69664 : Nat) ≤ 69664; decide⟩) hP hD hS hA (fun H locs hP hD hS => ?_)
      subst hAe
      exact rt_a (u := ((qf h0 q1 q2 q3 0 0 0 0), (cf c1 c2 c3))) X (fun t ht hvm => ⟨rfl, by rw [ht]; exact hP, va_K.moved hvm hK, hD⟩) hS hr hlk dX5_init_91
    refine lv_iload_n hx hb dX5_init_62 rfl (lv_at hl 3 rfl) ?_
    refine lv_if_ge (tgt := 70) hx hb dX5_init_63 (by decide) (fun c_1 => ?_) (fun c_1 => ?_)
    ·
      refine lv_iload_n hx hb dX5_init_70 rfl (lv_at hl 3 rfl) ?_
      refine lv_sipush (v := (4096 : Int32)) hx hb dX5_init_71 (by decide) ?_
      refine lv_icmp_le (tgt := 83) hx hb dX5_init_74 (by decide) (fun c_2 => ?_) (fun c_2 => ?_)
      ·
        refine lv_iload_n hx hb dX5_init_83 rfl (lv_at hl 3 rfl) ?_
        exact kM _ (by unfold mostF; rw [if_pos c_1, if_pos c_2])
      ·
        refine lv_sipush (v := (4096 : Int32)) hx hb dX5_init_77 (by decide) ?_
        refine lv_goto (tgt := 84) hx hb dX5_init_80 (by decide) ?_
        exact kM _ (by unfold mostF; rw [if_pos c_1, if_neg c_2])
    ·
      refine lv_iconst (v := (0 : Int32)) hx hb dX5_init_66 (by decide) ?_
      refine lv_goto (tgt := 84) hx hb dX5_init_67 (by decide) ?_
      exact kM _ (by unfold mostF; rw [if_neg c_1])
  refine lv_iload_n hx hb dX5_init_29 rfl (lv_at hl 1 rfl) ?_
  refine lv_bipush (v := (64 : Int32)) hx hb dX5_init_30 (by decide) ?_
  refine lv_icmp_ge (tgt := 40) hx hb dX5_init_32 (by decide) (fun c_1 => ?_) (fun c_1 => ?_)
  ·
    refine lv_iload_n hx hb dX5_init_40 rfl (lv_at hl 1 rfl) ?_
    refine lv_ldc (v := (65536 : Int32)) hx hb hown (hts _ wd_463) dX5_init_41 ?_
    refine lv_icmp_le (tgt := 51) hx hb dX5_init_43 (by decide) (fun c_2 => ?_) (fun c_2 => ?_)
    ·
      refine lv_iload_n hx hb dX5_init_51 rfl (lv_at hl 1 rfl) ?_
      exact kN _ (by unfold nearF; rw [if_pos c_1, if_pos c_2])
    ·
      refine lv_ldc (v := (65536 : Int32)) hx hb hown (hts _ wd_463) dX5_init_46 ?_
      refine lv_goto (tgt := 52) hx hb dX5_init_48 (by decide) ?_
      exact kN _ (by unfold nearF; rw [if_pos c_1, if_neg c_2])
  ·
    refine lv_bipush (v := (64 : Int32)) hx hb dX5_init_35 (by decide) ?_
    refine lv_goto (tgt := 52) hx hb dX5_init_37 (by decide) ?_
    exact kN _ (by unfold nearF; rw [if_neg c_1])
def cellv (L : Nat) (xs : Nat → Int32) (k : Int32) : Int32 := if nI L ≤ k then 0 else xs k.toNatClampNeg
/-- the law's cell(script, k): what stands there, or 0 -/
def Qcell (v : Int32) : Array Value → State → Outcome → State → Prop := va_Qi (fun r (_ : Unit) => r = v) (fun _ _ => True) (fun _ => False)
def Pcell (b L : Nat) (xs : Nat → Int32) (k : Int32) : Array Value → State → Prop := va_Pc [.ref b, .int k] (fun U => va_X b L xs U U.heap)
set_option maxHeartbeats 4000000 in
set_option maxRecDepth 100000 in
theorem c_L_cell (l : Launch) (b L : Nat) (xs : Nat → Int32) (k : Int32) (hk : 0 ≤ k.toInt) (hL : L ≤ 1538) : Met l yL_cell (.code yL_cell cL_cell 2 (some .int) :: big) (rmd 0) (Pcell b L xs k) (Qcell (cellv L xs k)) 0 0 (fun _ => False) := by
  refine Met.ofW (cc := cL_cell) (maxL := 2) (ret := some .int) (by decide) rfl ?_
  intro p e s m args below meth c s₁ B hml hv
  obtain ⟨rfl, hX⟩ := hv
  have hx := B.exec
  have hb := B.bytes
  have hr := B.returns
  have hlk := B.notSynchronized
  have hbl : b < s.heap.size := by
    obtain ⟨scr, h1, -⟩ := hX
    exact (Array.getElem?_eq_some_iff.mp h1).1
  have hS : va_S (fun _ => False) s.heap s.heap [] := va_S.rf
  have hbA : ¬ (fun _ : Nat => False) b := id
  have hl := lv_entry ([.ref b, .int k]) (n := 2) (Nat.le_of_ble_eq_true rfl)
  rw [lg_entry_eq]
  generalize (lg_sl ([.ref b, .int k]) ++ List.replicate (2 - (lg_sl ([.ref b, .int k])).length) Slot.unset).toArray = ls at hl ⊢
  have hl : lv_has ls 2 [(0, .ref b), (1, .int k)] := hl
  refine lv_iload_n hx hb dL_cell_0 rfl (lv_at hl 1 rfl) ?_
  refine lv_aload_n hx hb dL_cell_1 rfl (lv_at hl 0 rfl) ?_
  refine va_slen hx hb hX hbl hbA hS dL_cell_2 ?_
  refine lv_icmp_ge (tgt := 12) hx hb dL_cell_3 (by decide) (fun c_1 => ?_) (fun c_1 => ?_)
  · refine lv_iconst (v := (0 : Int32)) hx hb dL_cell_12 (by decide) ?_
    exact W.iret (v := 0) hx hb hr (fun t ht hW => ⟨⟨0, (), rfl, (if_pos (c := nI L ≤ k) c_1).symm, trivial⟩, hS.F ht⟩) hS.2.2 dL_cell_13
  · have hin : vp_in k L := by
      have h2 : ¬ nI L ≤ k := c_1
      rw [Int32.le_iff_toInt_le, nI_toInt (by omega)] at h2
      rw [vp_in_iff]
      omega
    refine lv_aload_n hx hb dL_cell_6 rfl (lv_at hl 0 rfl) ?_
    refine lv_iload_n hx hb dL_cell_7 rfl (lv_at hl 1 rfl) ?_
    refine va_sld hx hb hX hbl hbA hS hin dL_cell_8 ?_
    refine lv_goto (tgt := 13) hx hb dL_cell_9 (by decide) ?_
    exact W.iret (v := xs k.toNatClampNeg) hx hb hr (fun t ht hW => ⟨⟨xs k.toNatClampNeg, (), rfl, (if_neg (c := nI L ≤ k) c_1).symm, trivial⟩, hS.F ht⟩) hS.2.2 dL_cell_13
