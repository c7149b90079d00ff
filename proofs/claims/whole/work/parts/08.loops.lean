theorem wd_417 : (.constant RX4 91 (100000) : Cond) ∈ big := mb 417 (by decide +kernel) rfl
theorem wd_468 : (.constantLong RX5 62 (-1) : Cond) ∈ big := mb 468 (by decide +kernel) rfl
theorem wd_692 : (.constant RX5 111 (100000) : Cond) ∈ big := mb 692 (by decide +kernel) rfl
theorem klen_7 {p : Program} {l : Launch} {e : Env} {R : Room} {s : State} {m : MethodId} {args : Array Value} {below : List Frame} {meth : Method} {c : Code} {H : Heap} {locs : List Loc} {cells slots : Nat} {Q : State → Prop} {cc : ByteArray} {pc nL : Nat} {ls : Array Slot} {rest : List Value} {D : va_G} {q : Nat → Nat} {ca : Nat → ClassId} {nW nB : Nat} {E : KS} {own : String} (X : Cx p m c cc nL s args own D (tysK ca)) (hP : va_P D vwCl (cwK q ca nW nB E) H) (hdg : decode cc pc = .ok (.arraylength, 1)) (kk : W p l e R s m args below meth c H locs cells slots Q (F0 m (pc + 1) ls (.int (32 : Int32) :: rest))) : W p l e R s m args below meth c H locs cells slots Q (F0 m pc ls (.ref (q 7) :: rest)) :=
  va_alen X.1.1 X.1.2.1 X.2 hP 7 2 rfl rfl rfl hdg kk
/-! methods with loops: reset and run, of the class and of the reference -/
def zx (f : Nat → Int32) (i : Nat) : Nat → Int32 := fun j => if j < i then 0 else f j
theorem zx_0 (f : Nat → Int32) : zx f 0 = f := by
  funext j
  simp [zx]
theorem zx_s (f : Nat → Int32) (i : Nat) : upd (zx f i) i 0 = zx f (i + 1) := by
  funext j
  unfold upd zx
  by_cases h : j = i
  · subst h; simp
  · by_cases h2 : j < i
    · simp [h, h2, Nat.lt_succ_of_lt h2]
    · have h3 : ¬ j < i + 1 := by omega
      simp [h, h2, h3]
theorem kx_00 (E : KS) : kx_ E (zx (kx E) 0) = E := by rw [zx_0]; rfl
theorem mx_00 (E : MS) : mx_ E (zx (mx E) 0) = E := by rw [zx_0]; rfl
theorem kx_ss (E : KS) (i : Nat) (h : i < 32) : kx_ (kx_ E (zx (kx E) i)) (upd (kx (kx_ E (zx (kx E) i))) (nI i).toNatClampNeg (0 : Int32)) = kx_ E (zx (kx E) (i + 1)) := by
  rw [nI_clamp (by omega), show kx (kx_ E (zx (kx E) i)) = zx (kx E) i from rfl, zx_s]
  rfl
theorem mx_ss (E : MS) (i : Nat) (h : i < 32) : mx_ (mx_ E (zx (mx E) i)) (upd (mx (mx_ E (zx (mx E) i))) (nI i).toNatClampNeg (0 : Int32)) = mx_ E (zx (mx E) (i + 1)) := by
  rw [nI_clamp (by omega), show mx (mx_ E (zx (mx E) i)) = zx (mx E) i from rfl, zx_s]
  rfl
def f_X4_reset (nW nB : Nat) (E : KS) : KS :=
  (f_X0_restart nW nB (f_X2_restart nW nB (f_X3_restart nW nB (klatest_ (kretired_ (kwaiting_ (kplace_ (kx_ E (zx (kx E) 32)) (0 : Int32)) false) (0 : Int64)) (0 : Int32)))))
set_option maxHeartbeats 4000000 in
set_option maxRecDepth 100000 in
theorem c_X4_reset (l : Launch) (D : va_G) (q : Nat → Nat) (ca : Nat → ClassId) (nW nB : Nat) (hk : KOk nW nB) (E : KS) : Mt l yX4_reset cX4_reset 2 none 1 D (tysK ca) [.ref (q 0)] (cwK q ca nW nB E) (QcV D (cwK q ca nW nB E) (cwK q ca nW nB (f_X4_reset nW nB E))) := by
  refine ent (own := RX4) rfl (by decide) (Nat.le_of_ble_eq_true rfl) ?_
  intro p e s m below meth c A ls X hr hlk hmn hAe hA hP hD hS hl
  have hx := X.1.1
  have hb := X.1.2.1
  have hl : lv_has ls 2 [(0, .ref (q 0))] := hl
  refine lv_iconst (v := (0 : Int32)) hx hb dX4_reset_0 (by decide) ?_
  refine lv_istore_n (lv' := [(1, .int (nI 0)), (0, .ref (q 0))]) hx hb dX4_reset_1 rfl hl (by decide) rfl (fun ls hl => ?_)
  rw [← kx_00 E] at hP hD
  have loop : ∀ (n i : Nat), i ≤ 32 → 32 < i + n → ∀ (H : Heap) (locs : List Loc) (ls : Array Slot), va_P D vwCl (cwK q ca nW nB (kx_ E (zx (kx E) i))) H → va_D A (cwK q ca nW nB (kx_ E (zx (kx E) i))) → va_S A s.heap H locs → lv_has ls 2 [(1, .int (nI i)), (0, .ref (q 0))] → W p l e (rmd 1) s m [Value.ref (q 0)].toArray below meth c H locs 0 0 (MQ below (QcV D (cwK q ca nW nB E) (cwK q ca nW nB (f_X4_reset nW nB E)) s.heap.size) [Value.ref (q 0)].toArray s 0 0 A) (F0 m 2 ls []) := by
    intro n
    induction n with
    | zero => intro i h1 h2; exact absurd h2 (by omega)
    | succ n ih =>
      intro i hi hn H locs ls hP hD hS hl
      refine lv_iload_n hx hb dX4_reset_2 rfl (lv_at hl 0 rfl) ?_
      refine lv_aload_n hx hb dX4_reset_3 rfl (lv_at hl 1 rfl) ?_
      refine gf_X4_49 X hP dX4_reset_4 ?_
      refine klen_7 X hP dX4_reset_7 ?_
      refine lv_icmp_ge (tgt := 24) hx hb dX4_reset_8 (by decide) (fun c_1 => ?_) (fun c_1 => ?_)
      ·
        have hi32 : i = 32 := by
          rcases Nat.lt_or_ge i 32 with q2 | q2
          · exact absurd c_1 (nI_ge (b := 32) q2 (by decide))
          · omega
        subst hi32
        refine lv_aload_n hx hb dX4_reset_24 rfl (lv_at hl 1 rfl) ?_
        refine lv_iconst (v := (0 : Int32)) hx hb dX4_reset_25 (by decide) ?_
        refine pf_X4_56 X hP hD hS (0 : Int32) dX4_reset_26 (fun H locs hP hD hS => ?_)
        refine lv_aload_n hx hb dX4_reset_29 rfl (lv_at hl 1 rfl) ?_
        refine lv_iconst (v := (0 : Int32)) hx hb dX4_reset_30 (by decide) ?_
        refine pf_X4_60 X hP hD hS false dX4_reset_31 (fun H locs hP hD hS => ?_)
        refine lv_aload_n hx hb dX4_reset_34 rfl (lv_at hl 1 rfl) ?_
        refine lv_lconst (v := (0 : Int64)) hx hb dX4_reset_35 (by decide) ?_
        refine pf_X4_64 X hP hD hS (0 : Int64) dX4_reset_36 (fun H locs hP hD hS => ?_)
        refine lv_aload_n hx hb dX4_reset_39 rfl (lv_at hl 1 rfl) ?_
        refine lv_iconst (v := (0 : Int32)) hx hb dX4_reset_40 (by decide) ?_
        refine pf_X4_68 X hP hD hS (0 : Int32) dX4_reset_41 (fun H locs hP hD hS => ?_)
        refine lv_aload_n hx hb dX4_reset_44 rfl (lv_at hl 1 rfl) ?_
        refine gf_X4_31 X hP dX4_reset_45 ?_
        refine go_v (rn_V (ci := 3) (q0 := 3) X (c_X3_restart l D q ca nW nB hk (klatest_ (kretired_ (kwaiting_ (kplace_ (kx_ E (zx (kx E) 32)) (0 : Int32)) false) (0 : Int64)) (0 : Int32)) ) ok_X3_restart wd_141 ⟨by decide, by decide⟩ hP hD rfl rfl rfl hl.1 rfl (Nat.le_of_ble_eq_true rfl) dX4_reset_48 ⟨Nat.zero_le _, Nat.zero_le _⟩) hP hD hS hA (fun H locs hP hD hS => ?_)
        refine lv_aload_n hx hb dX4_reset_51 rfl (lv_at hl 1 rfl) ?_
        refine gf_X4_38 X hP dX4_reset_52 ?_
        refine go_v (rn_V (ci := 2) (q0 := 4) X (c_X2_restart l D q ca nW nB hk (f_X3_restart nW nB (klatest_ (kretired_ (kwaiting_ (kplace_ (kx_ E (zx (kx E) 32)) (0 : Int32)) false) (0 : Int64)) (0 : Int32))) ) ok_X2_restart wd_146 ⟨by decide, by decide⟩ hP hD rfl rfl rfl hl.1 rfl (Nat.le_of_ble_eq_true rfl) dX4_reset_55 ⟨Nat.zero_le _, Nat.zero_le _⟩) hP hD hS hA (fun H locs hP hD hS => ?_)
        refine lv_aload_n hx hb dX4_reset_58 rfl (lv_at hl 1 rfl) ?_
        refine gf_X4_45 X hP dX4_reset_59 ?_
        refine go_v (rn_V (ci := 0) (q0 := 6) X (c_X0_restart l D q ca nW nB hk (f_X2_restart nW nB (f_X3_restart nW nB (klatest_ (kretired_ (kwaiting_ (kplace_ (kx_ E (zx (kx E) 32)) (0 : Int32)) false) (0 : Int64)) (0 : Int32)))) ) ok_X0_restart wd_150 ⟨by decide, by decide⟩ hP hD rfl rfl rfl hl.1 rfl (Nat.le_of_ble_eq_true rfl) dX4_reset_62 ⟨Nat.zero_le _, Nat.zero_le _⟩) hP hD hS hA (fun H locs hP hD hS => ?_)
        exact rku_v (F := (f_X4_reset nW nB E)) (E1 := (f_X0_restart nW nB (f_X2_restart nW nB (f_X3_restart nW nB (klatest_ (kretired_ (kwaiting_ (kplace_ (kx_ E (zx (kx E) 32)) (0 : Int32)) false) (0 : Int64)) (0 : Int32)))))) rfl X hP hD hS hAe hr hlk dX4_reset_65
      ·
        refine lv_aload_n hx hb dX4_reset_11 rfl (lv_at hl 1 rfl) ?_
        refine gf_X4_49 X hP dX4_reset_12 ?_
        refine lv_iload_n hx hb dX4_reset_15 rfl (lv_at hl 0 rfl) ?_
        refine lv_iconst (v := (0 : Int32)) hx hb dX4_reset_16 (by decide) ?_
        have hlt : i < 32 := by
          rcases Nat.lt_or_ge i 32 with q2 | q2
          · exact q2
          · exact absurd (nI_le q2 (by omega)) c_1
        refine kst_7 X hP hD hS (vp_in_nI hlt (by decide)) dX4_reset_17 (fun H locs hP hD hS => ?_)
        refine lv_iinc (v := ((nI i) + (1 : Int32))) (lv' := [(1, .int ((nI i) + (1 : Int32))), (0, .ref (q 0))]) hx hb dX4_reset_18 hl (k := 0) rfl rfl (by decide) rfl (fun ls hl => ?_)
        refine lv_goto (tgt := 2) hx hb dX4_reset_21 (by decide) ?_
        rw [kx_ss E i hlt] at hP hD
        exact ih (i + 1) (by omega) (by omega) H locs ls hP hD hS (by rw [← nI_1]; exact hl)
  exact loop 33 0 (by omega) (by omega) _ _ ls hP hD hS hl
def f_X5_reset (sz mo : Int32) (E : MS) : MS :=
  (mlatest_ (mwaits_ (mretired_ (msentMany_ (mlimit_ (mtime_ (mmtval_ (mmcause_ (mmepc_ (mmscratch_ (mmtvec_ (mmieBits_ (mmpie_ (mmie_ (mpc_ (mx_ E (zx (mx E) 32)) (0 : Int32)) false) false) (0 : Int32)) (0 : Int32)) (0 : Int32)) (0 : Int32)) (0 : Int32)) (0 : Int32)) (0 : Int64)) (-1 : Int64)) (0 : Int32)) (0 : Int64)) false) (0 : Int32))
set_option maxHeartbeats 4000000 in
set_option maxRecDepth 100000 in
theorem c_X5_reset (l : Launch) (D : va_G) (q : Nat → Nat) (ca : Nat → ClassId) (sz mo : Int32) (hk : MOk sz mo) (E : MS) : Mt l yX5_reset cX5_reset 2 none 0 D (tysM ca) [.ref (q 0)] (cwM q ca sz mo E) (QcV D (cwM q ca sz mo E) (cwM q ca sz mo (f_X5_reset sz mo E))) := by
  refine ent (own := RX5) rfl (by decide) (Nat.le_of_ble_eq_true rfl) ?_
  intro p e s m below meth c A ls X hr hlk hmn hAe hA hP hD hS hl
  have hx := X.1.1
  have hb := X.1.2.1
  have hl : lv_has ls 2 [(0, .ref (q 0))] := hl
  refine lv_iconst (v := (0 : Int32)) hx hb dX5_reset_0 (by decide) ?_
  refine lv_istore_n (lv' := [(1, .int (nI 0)), (0, .ref (q 0))]) hx hb dX5_reset_1 rfl hl (by decide) rfl (fun ls hl => ?_)
  rw [← mx_00 E] at hP hD
  have loop : ∀ (n i : Nat), i ≤ 32 → 32 < i + n → ∀ (H : Heap) (locs : List Loc) (ls : Array Slot), va_P D vwCl (cwM q ca sz mo (mx_ E (zx (mx E) i))) H → va_D A (cwM q ca sz mo (mx_ E (zx (mx E) i))) → va_S A s.heap H locs → lv_has ls 2 [(1, .int (nI i)), (0, .ref (q 0))] → W p l e (rmd 0) s m [Value.ref (q 0)].toArray below meth c H locs 0 0 (MQ below (QcV D (cwM q ca sz mo E) (cwM q ca sz mo (f_X5_reset sz mo E)) s.heap.size) [Value.ref (q 0)].toArray s 0 0 A) (F0 m 2 ls []) := by
    intro n
    induction n with
    | zero => intro i h1 h2; exact absurd h2 (by omega)
    | succ n ih =>
      intro i hi hn H locs ls hP hD hS hl
      refine lv_iload_n hx hb dX5_reset_2 rfl (lv_at hl 0 rfl) ?_
      refine lv_bipush (v := (32 : Int32)) hx hb dX5_reset_3 (by decide) ?_
      refine lv_icmp_ge (tgt := 21) hx hb dX5_reset_5 (by decide) (fun c_1 => ?_) (fun c_1 => ?_)
      ·
        have hi32 : i = 32 := by
          rcases Nat.lt_or_ge i 32 with q2 | q2
          · exact absurd c_1 (nI_ge (b := 32) q2 (by decide))
          · omega
        subst hi32
        refine lv_aload_n hx hb dX5_reset_21 rfl (lv_at hl 1 rfl) ?_
        refine lv_iconst (v := (0 : Int32)) hx hb dX5_reset_22 (by decide) ?_
        refine pf_X5_30 X hP hD hS (0 : Int32) dX5_reset_23 (fun H locs hP hD hS => ?_)
        refine lv_aload_n hx hb dX5_reset_26 rfl (lv_at hl 1 rfl) ?_
        refine lv_iconst (v := (0 : Int32)) hx hb dX5_reset_27 (by decide) ?_
        refine pf_X5_33 X hP hD hS false dX5_reset_28 (fun H locs hP hD hS => ?_)
        refine lv_aload_n hx hb dX5_reset_31 rfl (lv_at hl 1 rfl) ?_
        refine lv_iconst (v := (0 : Int32)) hx hb dX5_reset_32 (by decide) ?_
        refine pf_X5_37 X hP hD hS false dX5_reset_33 (fun H locs hP hD hS => ?_)
        refine lv_aload_n hx hb dX5_reset_36 rfl (lv_at hl 1 rfl) ?_
        refine lv_iconst (v := (0 : Int32)) hx hb dX5_reset_37 (by decide) ?_
        refine pf_X5_40 X hP hD hS (0 : Int32) dX5_reset_38 (fun H locs hP hD hS => ?_)
        refine lv_aload_n hx hb dX5_reset_41 rfl (lv_at hl 1 rfl) ?_
        refine lv_iconst (v := (0 : Int32)) hx hb dX5_reset_42 (by decide) ?_
        refine pf_X5_43 X hP hD hS (0 : Int32) dX5_reset_43 (fun H locs hP hD hS => ?_)
        refine lv_aload_n hx hb dX5_reset_46 rfl (lv_at hl 1 rfl) ?_
        refine lv_iconst (v := (0 : Int32)) hx hb dX5_reset_47 (by decide) ?_
        refine pf_X5_46 X hP hD hS (0 : Int32) dX5_reset_48 (fun H locs hP hD hS => ?_)
        refine lv_aload_n hx hb dX5_reset_51 rfl (lv_at hl 1 rfl) ?_
        refine lv_iconst (v := (0 : Int32)) hx hb dX5_reset_52 (by decide) ?_
        refine pf_X5_49 X hP hD hS (0 : Int32) dX5_reset_53 (fun H locs hP hD hS => ?_)
        refine lv_aload_n hx hb dX5_reset_56 rfl (lv_at hl 1 rfl) ?_
        refine lv_iconst (v := (0 : Int32)) hx hb dX5_reset_57 (by decide) ?_
        refine pf_X5_52 X hP hD hS (0 : Int32) dX5_reset_58 (fun H locs hP hD hS => ?_)
        refine lv_aload_n hx hb dX5_reset_61 rfl (lv_at hl 1 rfl) ?_
        refine lv_iconst (v := (0 : Int32)) hx hb dX5_reset_62 (by decide) ?_
        refine pf_X5_55 X hP hD hS (0 : Int32) dX5_reset_63 (fun H locs hP hD hS => ?_)
        refine lv_aload_n hx hb dX5_reset_66 rfl (lv_at hl 1 rfl) ?_
        refine lv_lconst (v := (0 : Int64)) hx hb dX5_reset_67 (by decide) ?_
        refine pf_X5_58 X hP hD hS (0 : Int64) dX5_reset_68 (fun H locs hP hD hS => ?_)
        refine lv_aload_n hx hb dX5_reset_71 rfl (lv_at hl 1 rfl) ?_
        refine lv_ldc2 (v := (-1 : Int64)) hx hb X.1.2.2.2.1 (X.1.2.2.2.2 _ wd_468) dX5_reset_72 ?_
        refine pf_X5_64 X hP hD hS (-1 : Int64) dX5_reset_75 (fun H locs hP hD hS => ?_)
        refine lv_aload_n hx hb dX5_reset_78 rfl (lv_at hl 1 rfl) ?_
        refine lv_iconst (v := (0 : Int32)) hx hb dX5_reset_79 (by decide) ?_
        refine pf_X5_67 X hP hD hS (0 : Int32) dX5_reset_80 (fun H locs hP hD hS => ?_)
        refine lv_aload_n hx hb dX5_reset_83 rfl (lv_at hl 1 rfl) ?_
        refine lv_lconst (v := (0 : Int64)) hx hb dX5_reset_84 (by decide) ?_
        refine pf_X5_70 X hP hD hS (0 : Int64) dX5_reset_85 (fun H locs hP hD hS => ?_)
        refine lv_aload_n hx hb dX5_reset_88 rfl (lv_at hl 1 rfl) ?_
        refine lv_iconst (v := (0 : Int32)) hx hb dX5_reset_89 (by decide) ?_
        refine pf_X5_73 X hP hD hS false dX5_reset_90 (fun H locs hP hD hS => ?_)
        refine lv_aload_n hx hb dX5_reset_93 rfl (lv_at hl 1 rfl) ?_
        refine lv_iconst (v := (0 : Int32)) hx hb dX5_reset_94 (by decide) ?_
        refine pf_X5_76 X hP hD hS (0 : Int32) dX5_reset_95 (fun H locs hP hD hS => ?_)
        exact rmu_v (F := (f_X5_reset sz mo E)) (E1 := (mlatest_ (mwaits_ (mretired_ (msentMany_ (mlimit_ (mtime_ (mmtval_ (mmcause_ (mmepc_ (mmscratch_ (mmtvec_ (mmieBits_ (mmpie_ (mmie_ (mpc_ (mx_ E (zx (mx E) 32)) (0 : Int32)) false) false) (0 : Int32)) (0 : Int32)) (0 : Int32)) (0 : Int32)) (0 : Int32)) (0 : Int32)) (0 : Int64)) (-1 : Int64)) (0 : Int32)) (0 : Int64)) false) (0 : Int32))) rfl X hP hD hS hAe hr hlk dX5_reset_98
      ·
        refine lv_aload_n hx hb dX5_reset_8 rfl (lv_at hl 1 rfl) ?_
        refine gf_X5_14 X hP dX5_reset_9 ?_
        refine lv_iload_n hx hb dX5_reset_12 rfl (lv_at hl 0 rfl) ?_
        refine lv_iconst (v := (0 : Int32)) hx hb dX5_reset_13 (by decide) ?_
        have hlt : i < 32 := by
          rcases Nat.lt_or_ge i 32 with q2 | q2
          · exact q2
          · exact absurd (nI_le q2 (by omega)) c_1
        refine mst_2 X hP hD hS (vp_in_nI hlt (by decide)) dX5_reset_14 (fun H locs hP hD hS => ?_)
        refine lv_iinc (v := ((nI i) + (1 : Int32))) (lv' := [(1, .int ((nI i) + (1 : Int32))), (0, .ref (q 0))]) hx hb dX5_reset_15 hl (k := 0) rfl rfl (by decide) rfl (fun ls hl => ?_)
        refine lv_goto (tgt := 2) hx hb dX5_reset_18 (by decide) ?_
        rw [mx_ss E i hlt] at hP hD
        exact ih (i + 1) (by omega) (by omega) H locs ls hP hD hS (by rw [← nI_1]; exact hl)
  exact loop 33 0 (by omega) (by omega) _ _ ls hP hD hS hl
def oneK (nW nB : Nat) (E : KS) : KS := f_X3_advance nW nB (klatest_ (f_X4_stepOnce nW nB E).2 (f_X4_stepOnce nW nB E).1)
def itK (nW nB : Nat) : Nat → KS → KS
  | 0, E => E
  | j + 1, E => itK nW nB j (oneK nW nB E)
def runK (nW nB : Nat) : Nat → Nat → KS → Int32 × KS
  | 0, d, E => (nI d, E)
  | n + 1, d, E => if klatest (oneK nW nB E) = 0 then runK nW nB n (d + 1) (oneK nW nB E) else (nI (d + 1), oneK nW nB E)
def f_X4_run (nW nB : Nat) (E : KS) (a1 : Int32) : Int32 × KS := if a1 < 0 then ((-2 : Int32), E) else if a1 ≤ (100000 : Int32) then runK nW nB a1.toNatClampNeg 0 E else ((-2 : Int32), E)
def oneM (sz mo : Int32) (E : MS) : MS := f_X5_tick sz mo (f_X5_step sz mo E).2
def itM (sz mo : Int32) : Nat → MS → MS
  | 0, E => E
  | j + 1, E => itM sz mo j (oneM sz mo E)
def runM (sz mo : Int32) : Nat → Nat → Int32 → MS → Int32 × MS
  | 0, d, _, E => (nI d, E)
  | n + 1, d, g, E => if g = 0 then runM sz mo n (d + 1) (f_X5_step sz mo E).1 (oneM sz mo E) else (nI d, E)
def f_X5_run (sz mo : Int32) (E : MS) (a1 : Int32) : Int32 × MS := if a1 < 0 then ((-2 : Int32), E) else if a1 ≤ (100000 : Int32) then runM sz mo a1.toNatClampNeg 0 0 E else ((-2 : Int32), E)
set_option maxHeartbeats 4000000 in
set_option maxRecDepth 100000 in
theorem c_X4_run (l : Launch) (D : va_G) (q : Nat → Nat) (ca : Nat → ClassId) (nW nB : Nat) (hk : KOk nW nB) (E : KS) (a1 : Int32) (hs : ∀ j : Nat, ¬ ksent (itK nW nB j E) < 0) : Mt l yX4_run cX4_run 3 (some .int) 7 D (tysK ca) [.ref (q 0), .int a1] (cwK q ca nW nB E) (QcI D (cwK q ca nW nB E) (cwK q ca nW nB (f_X4_run nW nB E a1).2) (f_X4_run nW nB E a1).1) := by
  refine ent (own := RX4) rfl (by decide) (Nat.le_of_ble_eq_true rfl) ?_
  intro p e s m below meth c A ls X hr hlk hmn hAe hA hP hD hS hl
  have hx := X.1.1
  have hb := X.1.2.1
  have hl : lv_has ls 3 [(0, .ref (q 0)), (1, .int a1)] := hl
  refine lv_iload_n hx hb dX4_run_0 rfl (lv_at hl 1 rfl) ?_
  refine lv_if_lt (tgt := 10) hx hb dX4_run_1 (by decide) (fun c_1 => ?_) (fun c_1 => ?_)
  ·
    refine lv_bipush (v := (-2 : Int32)) hx hb dX4_run_10 (by decide) ?_
    exact rku_i (v := (-2 : Int32)) (F := (f_X4_run nW nB E a1)) (E1 := E) (by unfold f_X4_run; rw [if_pos c_1]; try rfl) X hP hD hS hAe hr hlk dX4_run_12
  ·
    refine lv_iload_n hx hb dX4_run_4 rfl (lv_at hl 1 rfl) ?_
    refine lv_ldc (v := (100000 : Int32)) hx hb X.1.2.2.2.1 (X.1.2.2.2.2 _ wd_417) dX4_run_5 ?_
    refine lv_icmp_le (tgt := 13) hx hb dX4_run_7 (by decide) (fun c_2 => ?_) (fun c_2 => ?_)
    ·
      refine lv_iconst (v := (1 : Int32)) hx hb dX4_run_13 (by decide) ?_
      refine lv_istore_n (lv' := [(2, .int (nI (0 + 1))), (0, .ref (q 0)), (1, .int a1)]) hx hb dX4_run_14 rfl hl (by decide) rfl (fun ls hl => ?_)
      have hF : f_X4_run nW nB E a1 = runK nW nB a1.toNatClampNeg 0 E := by unfold f_X4_run; rw [if_neg c_1, if_pos c_2]
      obtain ⟨N, hN, rfl⟩ : ∃ N : Nat, N ≤ 100000 ∧ a1 = nI N := nI_of2 (M := (100000 : Int32)) (n := 100000) (by decide) c_1 c_2
      rw [nI_clamp (by omega)] at hF
      generalize f_X4_run nW nB E (nI N) = F at hF ⊢
      have loop : ∀ (n d : Nat) (E1 : KS), d + n = N → F = runK nW nB n d E1 → (∀ j : Nat, ¬ ksent (itK nW nB j E1) < 0) → ∀ (H : Heap) (locs : List Loc) (ls : Array Slot), va_P D vwCl (cwK q ca nW nB E1) H → va_D A (cwK q ca nW nB E1) → va_S A s.heap H locs → lv_has ls 3 [(2, .int (nI (d + 1))), (0, .ref (q 0)), (1, .int (nI N))] → W p l e (rmd 7) s m [Value.ref (q 0), .int (nI N)].toArray below meth c H locs 0 0 (MQ below (QcI D (cwK q ca nW nB E) (cwK q ca nW nB F.2) F.1 s.heap.size) [Value.ref (q 0), .int (nI N)].toArray s 0 0 A) (F0 m 15 ls []) := by
        intro n
        induction n with
        | zero =>
          intro d E1 hdn hG hs H locs ls hP hD hS hl
          refine lv_iload_n hx hb dX4_run_15 rfl (lv_at hl 0 rfl) ?_
          refine lv_iload_n hx hb dX4_run_16 rfl (lv_at hl 2 rfl) ?_
          refine lv_icmp_gt (tgt := 50) hx hb dX4_run_17 (by decide) (fun c_9 => ?_) (fun c_9 => absurd (nI_lt (by omega) (by omega)) c_9)
          refine lv_iload_n hx hb dX4_run_50 rfl (lv_at hl 2 rfl) ?_
          have hd : d = N := by omega
          subst hd
          exact rku_i (v := (nI d)) (F := F) (E1 := E1) hG X hP hD hS hAe hr hlk dX4_run_51
        | succ n ih =>
          intro d E1 hdn hG hs H locs ls hP hD hS hl
          refine lv_iload_n hx hb dX4_run_15 rfl (lv_at hl 0 rfl) ?_
          refine lv_iload_n hx hb dX4_run_16 rfl (lv_at hl 2 rfl) ?_
          refine lv_icmp_gt (tgt := 50) hx hb dX4_run_17 (by decide) (fun c_9 => absurd c_9 (nI_nlt (by omega) (by omega))) (fun c_9 => ?_)
          refine lv_aload_n hx hb dX4_run_20 rfl (lv_at hl 1 rfl) ?_
          refine lv_aload_n hx hb dX4_run_21 rfl (lv_at hl 1 rfl) ?_
          refine go_i (rn_V (ci := 4) (q0 := 0) X (c_X4_stepOnce l D q ca nW nB hk E1 (hs 0)) ok_X4_stepOnce wd_217 ⟨by decide, by decide⟩ hP hD rfl rfl rfl hl.1 rfl (Nat.le_of_ble_eq_true rfl) dX4_run_22 ⟨Nat.zero_le _, Nat.zero_le _⟩) hP hD hS hA (fun H locs hP hD hS => ?_)
          refine pf_X4_68 X hP hD hS (f_X4_stepOnce nW nB E1).1 dX4_run_25 (fun H locs hP hD hS => ?_)
          refine lv_aload_n hx hb dX4_run_28 rfl (lv_at hl 1 rfl) ?_
          refine gf_X4_31 X hP dX4_run_29 ?_
          refine go_v (rn_V (ci := 3) (q0 := 3) X (c_X3_advance l D q ca nW nB hk (klatest_ (f_X4_stepOnce nW nB E1).2 (f_X4_stepOnce nW nB E1).1) ) ok_X3_advance wd_418 ⟨by decide, by decide⟩ hP hD rfl rfl rfl hl.1 rfl (Nat.le_of_ble_eq_true rfl) dX4_run_32 ⟨Nat.zero_le _, Nat.zero_le _⟩) hP hD hS hA (fun H locs hP hD hS => ?_)
          refine lv_aload_n hx hb dX4_run_35 rfl (lv_at hl 1 rfl) ?_
          refine gf_X4_68 X hP dX4_run_36 ?_
          refine lv_if_eq (tgt := 44) hx hb dX4_run_39 (by decide) (fun c_21 => ?_) (fun c_21 => ?_)
          ·
            refine lv_iinc (v := ((nI (d + 1)) + (1 : Int32))) (lv' := [(2, .int ((nI (d + 1)) + (1 : Int32))), (0, .ref (q 0)), (1, .int (nI N))]) hx hb dX4_run_44 hl (k := 0) rfl rfl (by decide) rfl (fun ls hl => ?_)
            refine lv_goto (tgt := 15) hx hb dX4_run_47 (by decide) ?_
            exact ih (d + 1) (oneK nW nB E1) (by omega) (by rw [hG]; exact if_pos c_21) (fun j => hs (j + 1)) H locs ls hP hD hS (by rw [← nI_1 (d + 1)]; exact hl)
          ·
            refine lv_iload_n hx hb dX4_run_42 rfl (lv_at hl 0 rfl) ?_
            exact rku_i (v := (nI (d + 1))) (F := F) (E1 := oneK nW nB E1) (by rw [hG]; exact if_neg c_21) X hP hD hS hAe hr hlk dX4_run_43
      exact loop N 0 E (by omega) hF hs _ _ ls hP hD hS hl
    ·
      refine lv_bipush (v := (-2 : Int32)) hx hb dX4_run_10 (by decide) ?_
      exact rku_i (v := (-2 : Int32)) (F := (f_X4_run nW nB E a1)) (E1 := E) (by unfold f_X4_run; rw [if_neg c_1, if_neg c_2]; try rfl) X hP hD hS hAe hr hlk dX4_run_12
set_option maxHeartbeats 4000000 in
set_option maxRecDepth 100000 in
theorem c_X5_run (l : Launch) (D : va_G) (q : Nat → Nat) (ca : Nat → ClassId) (sz mo : Int32) (hk : MOk sz mo) (E : MS) (a1 : Int32) (hs : ∀ j : Nat, mSnt mo (itM sz mo j E)) : Mt l yX5_run cX5_run 4 (some .int) 7 D (tysM ca) [.ref (q 0), .int a1] (cwM q ca sz mo E) (QcI D (cwM q ca sz mo E) (cwM q ca sz mo (f_X5_run sz mo E a1).2) (f_X5_run sz mo E a1).1) := by
  refine ent (own := RX5) rfl (by decide) (Nat.le_of_ble_eq_true rfl) ?_
  intro p e s m below meth c A ls X hr hlk hmn hAe hA hP hD hS hl
  have hx := X.1.1
  have hb := X.1.2.1
  have hl : lv_has ls 4 [(0, .ref (q 0)), (1, .int a1)] := hl
  refine lv_iload_n hx hb dX5_run_0 rfl (lv_at hl 1 rfl) ?_
  refine lv_if_lt (tgt := 10) hx hb dX5_run_1 (by decide) (fun c_1 => ?_) (fun c_1 => ?_)
  ·
    refine lv_bipush (v := (-2 : Int32)) hx hb dX5_run_10 (by decide) ?_
    exact rmu_i (v := (-2 : Int32)) (F := (f_X5_run sz mo E a1)) (E1 := E) (by unfold f_X5_run; rw [if_pos c_1]; try rfl) X hP hD hS hAe hr hlk dX5_run_12
  ·
    refine lv_iload_n hx hb dX5_run_4 rfl (lv_at hl 1 rfl) ?_
    refine lv_ldc (v := (100000 : Int32)) hx hb X.1.2.2.2.1 (X.1.2.2.2.2 _ wd_692) dX5_run_5 ?_
    refine lv_icmp_le (tgt := 13) hx hb dX5_run_7 (by decide) (fun c_2 => ?_) (fun c_2 => ?_)
    ·
      refine lv_iconst (v := (0 : Int32)) hx hb dX5_run_13 (by decide) ?_
      refine lv_istore_n (lv' := [(2, .int (nI 0)), (0, .ref (q 0)), (1, .int a1)]) hx hb dX5_run_14 rfl hl (by decide) rfl (fun ls hl => ?_)
      refine lv_iconst (v := (0 : Int32)) hx hb dX5_run_15 (by decide) ?_
      refine lv_istore_n (lv' := [(3, .int (0 : Int32)), (2, .int (nI 0)), (0, .ref (q 0)), (1, .int a1)]) hx hb dX5_run_16 rfl hl (by decide) rfl (fun ls hl => ?_)
      have hF : f_X5_run sz mo E a1 = runM sz mo a1.toNatClampNeg 0 0 E := by unfold f_X5_run; rw [if_neg c_1, if_pos c_2]
      obtain ⟨N, hN, rfl⟩ : ∃ N : Nat, N ≤ 100000 ∧ a1 = nI N := nI_of2 (M := (100000 : Int32)) (n := 100000) (by decide) c_1 c_2
      rw [nI_clamp (by omega)] at hF
      generalize f_X5_run sz mo E (nI N) = F at hF ⊢
      have loop : ∀ (n d : Nat) (g : Int32) (E1 : MS), d + n = N → F = runM sz mo n d g E1 → (∀ j : Nat, mSnt mo (itM sz mo j E1)) → ∀ (H : Heap) (locs : List Loc) (ls : Array Slot), va_P D vwCl (cwM q ca sz mo E1) H → va_D A (cwM q ca sz mo E1) → va_S A s.heap H locs → lv_has ls 4 [(3, .int g), (2, .int (nI d)), (0, .ref (q 0)), (1, .int (nI N))] → W p l e (rmd 7) s m [Value.ref (q 0), .int (nI N)].toArray below meth c H locs 0 0 (MQ below (QcI D (cwM q ca sz mo E) (cwM q ca sz mo F.2) F.1 s.heap.size) [Value.ref (q 0), .int (nI N)].toArray s 0 0 A) (F0 m 17 ls []) := by
        intro n
        induction n with
        | zero =>
          intro d g E1 hdn hG hs H locs ls hP hD hS hl
          refine lv_iload_n hx hb dX5_run_17 rfl (lv_at hl 1 rfl) ?_
          refine lv_iload_n hx hb dX5_run_18 rfl (lv_at hl 3 rfl) ?_
          refine lv_icmp_ge (tgt := 41) hx hb dX5_run_19 (by decide) (fun c_9 => ?_) (fun c_9 => absurd (nI_le (by omega) (by omega)) c_9)
          refine lv_iload_n hx hb dX5_run_41 rfl (lv_at hl 1 rfl) ?_
          exact rmu_i (v := (nI d)) (F := F) (E1 := E1) hG X hP hD hS hAe hr hlk dX5_run_42
        | succ n ih =>
          intro d g E1 hdn hG hs H locs ls hP hD hS hl
          refine lv_iload_n hx hb dX5_run_17 rfl (lv_at hl 1 rfl) ?_
          refine lv_iload_n hx hb dX5_run_18 rfl (lv_at hl 3 rfl) ?_
          refine lv_icmp_ge (tgt := 41) hx hb dX5_run_19 (by decide) (fun c_9 => absurd c_9 (nI_ge (by omega) (by omega))) (fun c_9 => ?_)
          refine lv_iload_n hx hb dX5_run_22 rfl (lv_at hl 0 rfl) ?_
          refine lv_if_ne (tgt := 41) hx hb dX5_run_23 (by decide) (fun c_21 => ?_) (fun c_21 => ?_)
          ·
            refine lv_iload_n hx hb dX5_run_41 rfl (lv_at hl 1 rfl) ?_
            exact rmu_i (v := (nI d)) (F := F) (E1 := E1) (by rw [hG]; exact if_neg c_21) X hP hD hS hAe hr hlk dX5_run_42
          ·
            refine lv_aload_n hx hb dX5_run_26 rfl (lv_at hl 2 rfl) ?_
            refine go_i (rn_V (ci := 5) (q0 := 0) X (c_X5_step l D q ca sz mo hk E1 (hs 0)) ok_X5_step wd_693 ⟨by decide, by decide⟩ hP hD rfl rfl rfl hl.1 rfl (Nat.le_of_ble_eq_true rfl) dX5_run_27 ⟨Nat.zero_le _, Nat.zero_le _⟩) hP hD hS hA (fun H locs hP hD hS => ?_)
            refine lv_istore_n (lv' := [(3, .int (f_X5_step sz mo E1).1), (2, .int (nI d)), (0, .ref (q 0)), (1, .int (nI N))]) hx hb dX5_run_30 rfl hl (by decide) rfl (fun ls hl => ?_)
            refine lv_aload_n hx hb dX5_run_31 rfl (lv_at hl 2 rfl) ?_
            refine go_v (rn_V (ci := 5) (q0 := 0) X (c_X5_tick l D q ca sz mo hk (f_X5_step sz mo E1).2 ) ok_X5_tick wd_694 ⟨by decide, by decide⟩ hP hD rfl rfl rfl hl.1 rfl (Nat.le_of_ble_eq_true rfl) dX5_run_32 ⟨Nat.zero_le _, Nat.zero_le _⟩) hP hD hS hA (fun H locs hP hD hS => ?_)
            refine lv_iinc (v := ((nI d) + (1 : Int32))) (lv' := [(2, .int ((nI d) + (1 : Int32))), (3, .int (f_X5_step sz mo E1).1), (0, .ref (q 0)), (1, .int (nI N))]) hx hb dX5_run_35 hl (k := 1) rfl rfl (by decide) rfl (fun ls hl => ?_)
            refine lv_goto (tgt := 17) hx hb dX5_run_38 (by decide) ?_
            exact ih (d + 1) _ (oneM sz mo E1) (by omega) (by rw [hG]; exact if_pos c_21) (fun j => hs (j + 1)) H locs ls hP hD hS (by rw [← nI_1 d]; exact lv_sub hl [1, 0, 2, 3] rfl)
      exact loop N 0 0 E (by omega) hF hs _ _ ls hP hD hS hl
    ·
      refine lv_bipush (v := (-2 : Int32)) hx hb dX5_run_10 (by decide) ?_
      exact rmu_i (v := (-2 : Int32)) (F := (f_X5_run sz mo E a1)) (E1 := E) (by unfold f_X5_run; rw [if_neg c_1, if_neg c_2]; try rfl) X hP hD hS hAe hr hlk dX5_run_12
