theorem wd_42 : (.initialized RJ9 : Cond) ∈ big := mb 42 (by decide +kernel) rfl
theorem wd_55 : (.instanceMethod objectInit : Cond) ∈ big := mb 55 (by decide +kernel) rfl
set_option maxRecDepth 100000 in
theorem wd_56 : (.code objectInit ⟨#[0xb1]⟩ 1 none : Cond) ∈ big := mb 56 rfl rfl
theorem wd_57 : (.classLink RX4 7 RX1 : Cond) ∈ big := mb 57 (by decide +kernel) rfl
theorem wd_58 : (.instantiable RX1 1 : Cond) ∈ big := mb 58 (by decide +kernel) rfl
theorem wd_59 : (.constant RX4 11 (65536) : Cond) ∈ big := mb 59 (by decide +kernel) rfl
theorem wd_61 : (.static yJ9_min_7cf53 : Cond) ∈ big := mb 61 (by decide +kernel) rfl
theorem wd_64 : (.static yJ9_max_7cf53 : Cond) ∈ big := mb 64 (by decide +kernel) rfl
theorem wd_67 : (.instanceMethod yX1_init : Cond) ∈ big := mb 67 (by decide +kernel) rfl
theorem wd_74 : (.arrayClass .int : Cond) ∈ big := mb 74 (by decide +kernel) rfl
theorem wd_75 : (.classLink RX4 28 RX3 : Cond) ∈ big := mb 75 (by decide +kernel) rfl
theorem wd_76 : (.instantiable RX3 2 : Cond) ∈ big := mb 76 (by decide +kernel) rfl
theorem wd_78 : (.instanceMethod yX3_init : Cond) ∈ big := mb 78 (by decide +kernel) rfl
theorem wd_90 : (.classLink RX4 35 RX2 : Cond) ∈ big := mb 90 (by decide +kernel) rfl
theorem wd_91 : (.instantiable RX2 2 : Cond) ∈ big := mb 91 (by decide +kernel) rfl
theorem wd_93 : (.instanceMethod yX2_init : Cond) ∈ big := mb 93 (by decide +kernel) rfl
theorem wd_104 : (.arrayClass .byte : Cond) ∈ big := mb 104 (by decide +kernel) rfl
theorem wd_105 : (.classLink RX4 42 RX0 : Cond) ∈ big := mb 105 (by decide +kernel) rfl
theorem wd_106 : (.instantiable RX0 8 : Cond) ∈ big := mb 106 (by decide +kernel) rfl
theorem wd_108 : (.instanceMethod yX0_init : Cond) ∈ big := mb 108 (by decide +kernel) rfl
/-! constructors -/
def rma (d mc ms : Nat) : Room := { frames := d, cells := mc, slots := ms, locals := 33 * d }
section CT
variable {p : Program} {l : Launch} {e : Env} {R : Room} {s : State} {m : MethodId} {args : Array Value} {below : List Frame} {meth : Method} {c : Code} {H H0 : Heap} {locs : List Loc} {cells slots : Nat} {Q : State → Prop}
variable {cc bts : ByteArray} {pc nL nL2 n d mc ms index : Nat} {ls : Array Slot} {rest st As : List Value} {own host : String} {y : MethodName} {ret : Option FieldType} {b : Nat}
variable {D : va_G} {tys : List (ClassId × FieldType)} {A : Nat → Prop} {ws : va_W}
theorem ct_CB (hB : ∀ w ∈ big, w.before args s = true) (ok : OkB y bts nL2 ret n) (hl : Cond.methodLink own index y ∈ big) (hR : d + 1 ≤ R.frames ∧ 8 + (nL2 + 11) + 33 * d ≤ R.locals) : CallB R s args own index y bts nL2 ret (.code y bts nL2 ret :: big) (rma d mc ms) mc ms n :=
  ⟨rfl, rfl, hR.1, hR.2, tw_words hB ok.1, List.mem_cons_self, hB _ ok.1, hB _ ok.2.1, ⟨ok.2.2.1, ok.2.2.2.1⟩, tw_len ok.2.2.2.2, hB _ hl⟩
theorem ct_CN (hB : ∀ w ∈ big, w.before args s = true) (ok : OkB y bts nL2 ret n) (hl : Cond.methodLinkNest own index y host ∈ big) (hR : d + 1 ≤ R.frames ∧ 8 + (nL2 + 11) + 33 * d ≤ R.locals) : va_CN R s args own index y host bts nL2 ret (.code y bts nL2 ret :: big) (rma d mc ms) mc ms n :=
  ⟨⟨rfl, rfl, hR.1, hR.2, tw_words hB ok.1, List.mem_cons_self⟩, hB _ ok.1, hB _ ok.2.1, ⟨ok.2.2.1, ok.2.2.2.1⟩, tw_len ok.2.2.2.2, hB _ hl⟩
/-- a constructor's contract -/
def Ma (l : Launch) (y : MethodName) (cc : ByteArray) (nL d mc ms : Nat) (D : va_G) (tys : List (ClassId × FieldType)) (As : List Value) (ws : va_W) (Qc : Nat → Array Value → State → Outcome → State → Prop) : Prop := ∀ sz : Nat, Met l y (.code y cc nL none :: big) (rma d mc ms) (PcW D tys As ws sz) (Qc sz) mc ms (va_A ws sz)
theorem ct_I {Qc : Nat → Array Value → State → Outcome → State → Prop} (X : Cx p m c cc nL s args own D tys) {tyc : List (ClassId × FieldType)} {wc : va_W} (hM : Ma l y bts nL2 d mc ms D tyc (.ref b :: As) wc Qc) (ok : OkB y bts nL2 none n) (hy : y.name = "<init>") (hin : Cond.instanceMethod y ∈ big) (hl : Cond.methodLink own index y ∈ big) (hR : d + 1 ≤ R.frames ∧ 8 + (nL2 + 11) + 33 * d ≤ R.locals) (hP : va_P D vwCl wc H) (hK : va_K D vwCl tyc s) (hD : va_D A wc) (hn : As.length = n) (hsz : ls.size = nL) (hst : st = As.reverse ++ .ref b :: rest) (hW : (rest.map fun v => v.category).sum ≤ 8) (hdg : decode cc pc = .ok (.invokespecial index, 3)) (hf : cells + mc ≤ R.cells ∧ slots + ms ≤ R.slots) :
    va_Run p l e R s m args below meth c H locs cells slots mc ms (F0 m pc ls st) rest (Qc H.size (Value.ref b :: As).toArray) (va_A wc H.size) :=
  va_runI (As := As) (rest := rest) X.1 (hM H.size) ⟨ct_CB X.1.2.2.2.2 ok hl hR, hy, X.1.2.2.2.2 _ hin⟩ ⟨tw_blind, tw_pre hP hK hD⟩ rfl hn hsz hst (lv_room hW) hdg hf
theorem ct_IN {Qc : Nat → Array Value → State → Outcome → State → Prop} (X : Cx p m c cc nL s args own D tys) {tyc : List (ClassId × FieldType)} {wc : va_W} (hM : Ma l y bts nL2 d mc ms D tyc (.ref b :: As) wc Qc) (ok : OkB y bts nL2 none n) (hy : y.name = "<init>") (hin : Cond.instanceMethod y ∈ big) (hl : Cond.methodLinkNest own index y host ∈ big) (hR : d + 1 ≤ R.frames ∧ 8 + (nL2 + 11) + 33 * d ≤ R.locals) (hP : va_P D vwCl wc H) (hK : va_K D vwCl tyc s) (hD : va_D A wc) (hn : As.length = n) (hsz : ls.size = nL) (hst : st = As.reverse ++ .ref b :: rest) (hW : (rest.map fun v => v.category).sum ≤ 8) (hdg : decode cc pc = .ok (.invokespecial index, 3)) (hf : cells + mc ≤ R.cells ∧ slots + ms ≤ R.slots) :
    va_Run p l e R s m args below meth c H locs cells slots mc ms (F0 m pc ls st) rest (Qc H.size (Value.ref b :: As).toArray) (va_A wc H.size) :=
  va_runIN (As := As) (rest := rest) X.1 (hM H.size) ⟨ct_CN X.1.2.2.2.2 ok hl hR, hy, X.1.2.2.2.2 _ hin⟩ ⟨tw_blind, tw_pre hP hK hD⟩ rfl hn hsz hst (lv_room hW) hdg hf
theorem entA {Qc : Nat → Array Value → State → Outcome → State → Prop} (ho : y.cls = own) (hy : plainName y.cls = true) (hsl : (lg_sl As).length ≤ nL)
    (body : ∀ (p : Program) (e : Env) (s : State) (m : MethodId) (below : List Frame) (meth : Method) (c : Code) (A : Nat → Prop) (ls : Array Slot), Cx p m c cc nL s As.toArray own D tys → meth.sig.returnType = none → meth.locks = false → meth.name = y.name → A = va_A ws s.heap.size → (∀ q : Nat, s.heap.size ≤ q → A q) → va_P D vwCl ws s.heap → va_D A ws → va_S A s.heap s.heap [] → lv_has ls nL (lv_args 0 As) →
      W p l e (rma d mc ms) s m As.toArray below meth c s.heap [] 0 0 (MQ below (Qc s.heap.size) As.toArray s mc ms A) (F0 m 0 ls [])) : Ma l y cc nL d mc ms D tys As ws Qc := by
  subst ho
  intro sz
  refine Met.ofW (cc := cc) (maxL := nL) (ret := none) hy rfl ?_
  intro p e s m args below meth c s₁ B hml hv
  obtain ⟨rfl, hsz, hP, hK, hD0⟩ := hv
  have hts := atoms_spec (ws := .code y cc nL none :: big) B.pre
  have hown : s.vm.findClass y.cls = some m.cls := findClass_of_methodNamed B.named
  subst hsz
  have hl := lv_entry As (n := nL) hsl
  rw [lg_entry_eq]
  generalize (lg_sl As ++ List.replicate (nL - (lg_sl As).length) Slot.unset).toArray = ls at hl ⊢
  exact body p e s m below meth c (va_A ws s.heap.size) ls ⟨⟨B.exec, B.bytes, hml, hown, fun w h => hts w (List.mem_cons_of_mem _ h)⟩, hK⟩ B.returns B.notSynchronized (name_of_methodNamed B.named B.method).1 rfl (fun q h => Or.inr h) hP hD0.self va_S.rf hl
theorem rt_a {S : Type} {B : S → State → Prop} {u : S} (X : Cx p m c cc nL s args own D tys) (hB : ∀ t : State, t.heap = H → s.vm.Alike t.vm → B u t) (hS : va_S A s.heap H locs) (hr : meth.sig.returnType = none) (hlk : meth.locks = false) (hdg : decode cc pc = .ok (.return_, 1)) : W p l e R s m args below meth c H locs mc ms (MQ below (va_Qv (fun (_ : S) => True) B A) args s mc ms A) (F0 m pc ls []) :=
  W.vret X.1.1 X.1.2.1 hr (fun t ht hW => ⟨⟨u, rfl, trivial, hB t ht hW.alike⟩, hS.F ht⟩) hS.2.2 hdg
end CT
theorem okc_X0_init : OkB yX0_init cX0_init 1 none 0 := ⟨wd_109, wd_45, by decide +kernel⟩
theorem okc_X1_init : OkB yX1_init cX1_init 2 none 1 := ⟨wd_68, wd_41, by decide +kernel⟩
theorem okc_X2_init : OkB yX2_init cX2_init 2 none 1 := ⟨wd_94, wd_44, by decide +kernel⟩
theorem okc_X3_init : OkB yX3_init cX3_init 1 none 0 := ⟨wd_79, wd_43, by decide +kernel⟩
theorem okc_X4_init : OkB yX4_init cX4_init 3 none 2 := ⟨wd_53, wd_40, by decide +kernel⟩
theorem okc_X5_init : OkB yX5_init cX5_init 4 none 2 := ⟨wd_461, wd_46, by decide +kernel⟩
theorem wm_max : (Cond.code Lib.Math.max.name Lib.Math.max.code 2 (some .int)) ∈ big := mb 65 (by decide +kernel) rfl
theorem wm_min : (Cond.code Lib.Math.min.name Lib.Math.min.code 2 (some .int)) ∈ big := mb 62 (by decide +kernel) rfl
set_option maxHeartbeats 4000000 in
set_option maxRecDepth 100000 in
theorem c_X3_init (l : Launch) (D : va_G) (h0 : Nat) : Ma l yX3_init cX3_init 1 1 0 0 D [] [.ref h0] [(h0, .inr (3, [.long 0, .long 0]))] (fun sz => va_Qv (fun (_ : Unit) => True) (fun _ t => va_P D vwCl [(h0, .inr (3, [.long 0, .long 0]))] t.heap ∧ va_D (va_A [(h0, .inr (3, [.long 0, .long 0]))] sz) [(h0, .inr (3, [.long 0, .long 0]))]) (va_A [(h0, .inr (3, [.long 0, .long 0]))] sz)) := by
  refine entA (own := RX3) rfl (by decide) (Nat.le_of_ble_eq_true rfl) ?_
  intro p e s m below meth c A ls X hr hlk hmn hAe hA hP hD hS hl
  have hx := X.1.1
  have hb := X.1.2.1
  have hts := X.1.2.2.2.2
  have hown := X.1.2.2.2.1
  have hml := X.1.2.2.1
  have hK := X.2
  have hl : lv_has ls 1 [(0, .ref h0)] := hl
  refine lv_aload_n hx hb dX3_init_0 rfl (lv_at hl 0 rfl) ?_
  refine W.objInit hx hb hown (hts _ wd_80) (hts _ wd_55) (hts _ wd_56) rfl (by rw [hml]; exact hl.1) rfl dX3_init_1 (Nat.le_of_ble_eq_true rfl) (Nat.le_of_ble_eq_true rfl) ?_
  refine W.eq (g2 := F0 m 4 ls []) rfl ?_
  subst hAe
  exact rt_a (u := ()) X (fun t ht _ => ⟨by rw [ht]; exact hP, hD⟩) hS hr hlk dX3_init_4
set_option maxHeartbeats 4000000 in
set_option maxRecDepth 100000 in
theorem c_X0_init (l : Launch) (D : va_G) (h0 : Nat) : Ma l yX0_init cX0_init 1 1 0 0 D [] [.ref h0] [(h0, .inr (0, [.int 0, .int 0, .int 0, .int 0, .int 0, .int 0, .int 0, .int 0]))] (fun sz => va_Qv (fun (_ : Unit) => True) (fun _ t => va_P D vwCl [(h0, .inr (0, [.int 0, .int 0, .int 0, .int 0, .int 0, .int 0, .int 0, .int 0]))] t.heap ∧ va_D (va_A [(h0, .inr (0, [.int 0, .int 0, .int 0, .int 0, .int 0, .int 0, .int 0, .int 0]))] sz) [(h0, .inr (0, [.int 0, .int 0, .int 0, .int 0, .int 0, .int 0, .int 0, .int 0]))]) (va_A [(h0, .inr (0, [.int 0, .int 0, .int 0, .int 0, .int 0, .int 0, .int 0, .int 0]))] sz)) := by
  refine entA (own := RX0) rfl (by decide) (Nat.le_of_ble_eq_true rfl) ?_
  intro p e s m below meth c A ls X hr hlk hmn hAe hA hP hD hS hl
  have hx := X.1.1
  have hb := X.1.2.1
  have hts := X.1.2.2.2.2
  have hown := X.1.2.2.2.1
  have hml := X.1.2.2.1
  have hK := X.2
  have hl : lv_has ls 1 [(0, .ref h0)] := hl
  refine lv_aload_n hx hb dX0_init_0 rfl (lv_at hl 0 rfl) ?_
  refine W.objInit hx hb hown (hts _ wd_110) (hts _ wd_55) (hts _ wd_56) rfl (by rw [hml]; exact hl.1) rfl dX0_init_1 (Nat.le_of_ble_eq_true rfl) (Nat.le_of_ble_eq_true rfl) ?_
  refine W.eq (g2 := F0 m 4 ls []) rfl ?_
  subst hAe
  exact rt_a (u := ()) X (fun t ht _ => ⟨by rw [ht]; exact hP, hD⟩) hS hr hlk dX0_init_4
set_option maxHeartbeats 4000000 in
set_option maxRecDepth 100000 in
theorem c_X1_init (l : Launch) (D : va_G) (h0 N : Nat) (a : Int32) (hn0 : ¬ (a >>> ((2 : Int32) &&& 31)) < 0) (hnN : (a >>> ((2 : Int32) &&& 31)).toNatClampNeg = N) (hN : N ≤ 16384) : Ma l yX1_init cX1_init 2 1 1 16384 D [] [.ref h0, .int a] [(h0, .inr (1, [.null]))] (fun sz => va_Qv (fun (_ : Nat × ClassId) => True) (fun u t => va_P D vwCl [(h0, .inr (1, [.ref u.1])), (u.1, .inl (u.2, N, .inl (fun _ => 0)))] t.heap ∧ va_K D vwCl [(u.2, .int)] t ∧ va_D (va_A [(h0, .inr (1, [.null]))] sz) [(h0, .inr (1, [.ref u.1])), (u.1, .inl (u.2, N, .inl (fun _ => 0)))]) (va_A [(h0, .inr (1, [.null]))] sz)) := by
  refine entA (own := RX1) rfl (by decide) (Nat.le_of_ble_eq_true rfl) ?_
  intro p e s m below meth c A ls X hr hlk hmn hAe hA hP hD hS hl
  have hx := X.1.1
  have hb := X.1.2.1
  have hts := X.1.2.2.2.2
  have hown := X.1.2.2.2.1
  have hml := X.1.2.2.1
  have hK := X.2
  have hl : lv_has ls 2 [(0, .ref h0), (1, .int a)] := hl
  refine lv_aload_n hx hb dX1_init_0 rfl (lv_at hl 0 rfl) ?_
  refine W.objInit hx hb hown (hts _ wd_69) (hts _ wd_55) (hts _ wd_56) rfl (by rw [hml]; exact hl.1) rfl dX1_init_1 (Nat.le_of_ble_eq_true rfl) (Nat.le_of_ble_eq_true rfl) ?_
  refine W.eq (g2 := F0 m 4 ls []) rfl ?_
  refine lv_aload_n hx hb dX1_init_4 rfl (lv_at hl 0 rfl) ?_
  refine lv_iload_n hx hb dX1_init_5 rfl (lv_at hl 1 rfl) ?_
  refine lv_iconst (v := (2 : Int32)) hx hb dX1_init_6 (by decide) ?_
  refine lv_ishr hx hb dX1_init_7 ?_
  refine va_newa (atype := .int) (N' := N) (a0 := (N, .inl (fun _ => 0))) hx hb (hts _ wd_74) rfl hK hP hD hS hA (fun cA => rfl) hn0 hnN (by show N * 4 ≤ 536870912; omega) (Nat.le_of_ble_eq_true rfl) (by show 0 + N ≤ 16384; omega) dX1_init_8 (fun q1 cA H hK hP hD hS => ?_)
  have hP : va_P D vwCl [(h0, .inr (1, [.null])), (q1, .inl (cA, N, .inl (fun _ => 0)))] H := hP
  have hD : va_D A [(h0, .inr (1, [.null])), (q1, .inl (cA, N, .inl (fun _ => 0)))] := hD
  have hK : va_K D vwCl [(cA, .int)] s := hK
  refine W.widen (k := 1) (n := 16384) (by omega) (by omega) ?_
  refine va_putF (D := D) (ci := 1) (v := .ref q1) (ty := .array .int) (C := RX1) (T := TX1) (N := 1) hx hb hts inX1 tyX1 tyX1_ok nmX1 hown hK hP hD hS 0 rfl rfl 0 (by decide) (hts _ wd_70) (fun _ h9 => h9) rfl hmn rfl (by decide +kernel) rfl rfl (Nat.le_of_ble_eq_true rfl) dX1_init_10 (fun H locs hP hD hS => ?_)
  have hP : va_P D vwCl [(h0, .inr (1, [.ref q1])), (q1, .inl (cA, N, .inl (fun _ => 0)))] H := hP
  have hD : va_D A [(h0, .inr (1, [.ref q1])), (q1, .inl (cA, N, .inl (fun _ => 0)))] := hD
  subst hAe
  exact rt_a (u := (q1, cA)) X (fun t ht hvm => ⟨by rw [ht]; exact hP, va_K.moved hvm hK, hD⟩) hS hr hlk dX1_init_13
set_option maxHeartbeats 4000000 in
set_option maxRecDepth 100000 in
theorem c_X2_init (l : Launch) (D : va_G) (h0 N : Nat) (a : Int32) (hn0 : ¬ a < 0) (hnN : a.toNatClampNeg = N) (hN : N ≤ 4096) : Ma l yX2_init cX2_init 2 1 1 4096 D [] [.ref h0, .int a] [(h0, .inr (2, [.null, .int 0]))] (fun sz => va_Qv (fun (_ : Nat × ClassId) => True) (fun u t => va_P D vwCl [(h0, .inr (2, [.ref u.1, .int 0])), (u.1, .inl (u.2, N, .inl (fun _ => 0)))] t.heap ∧ va_K D vwCl [(u.2, .byte)] t ∧ va_D (va_A [(h0, .inr (2, [.null, .int 0]))] sz) [(h0, .inr (2, [.ref u.1, .int 0])), (u.1, .inl (u.2, N, .inl (fun _ => 0)))]) (va_A [(h0, .inr (2, [.null, .int 0]))] sz)) := by
  refine entA (own := RX2) rfl (by decide) (Nat.le_of_ble_eq_true rfl) ?_
  intro p e s m below meth c A ls X hr hlk hmn hAe hA hP hD hS hl
  have hx := X.1.1
  have hb := X.1.2.1
  have hts := X.1.2.2.2.2
  have hown := X.1.2.2.2.1
  have hml := X.1.2.2.1
  have hK := X.2
  have hl : lv_has ls 2 [(0, .ref h0), (1, .int a)] := hl
  refine lv_aload_n hx hb dX2_init_0 rfl (lv_at hl 0 rfl) ?_
  refine W.objInit hx hb hown (hts _ wd_95) (hts _ wd_55) (hts _ wd_56) rfl (by rw [hml]; exact hl.1) rfl dX2_init_1 (Nat.le_of_ble_eq_true rfl) (Nat.le_of_ble_eq_true rfl) ?_
  refine W.eq (g2 := F0 m 4 ls []) rfl ?_
  refine lv_aload_n hx hb dX2_init_4 rfl (lv_at hl 0 rfl) ?_
  refine lv_iload_n hx hb dX2_init_5 rfl (lv_at hl 1 rfl) ?_
  refine va_newa (atype := .byte) (N' := N) (a0 := (N, .inl (fun _ => 0))) hx hb (hts _ wd_104) rfl hK hP hD hS hA (fun cA => rfl) hn0 hnN (by show N * 1 ≤ 536870912; omega) (Nat.le_of_ble_eq_true rfl) (by show 0 + N ≤ 4096; omega) dX2_init_6 (fun q1 cA H hK hP hD hS => ?_)
  have hP : va_P D vwCl [(h0, .inr (2, [.null, .int 0])), (q1, .inl (cA, N, .inl (fun _ => 0)))] H := hP
  have hD : va_D A [(h0, .inr (2, [.null, .int 0])), (q1, .inl (cA, N, .inl (fun _ => 0)))] := hD
  have hK : va_K D vwCl [(cA, .byte)] s := hK
  refine W.widen (k := 1) (n := 4096) (by omega) (by omega) ?_
  refine va_putF (D := D) (ci := 2) (v := .ref q1) (ty := .array .byte) (C := RX2) (T := TX2) (N := 2) hx hb hts inX2 tyX2 tyX2_ok nmX2 hown hK hP hD hS 0 rfl rfl 0 (by decide) (hts _ wd_96) (fun _ h9 => h9) rfl hmn rfl (by decide +kernel) rfl rfl (Nat.le_of_ble_eq_true rfl) dX2_init_8 (fun H locs hP hD hS => ?_)
  have hP : va_P D vwCl [(h0, .inr (2, [.ref q1, .int 0])), (q1, .inl (cA, N, .inl (fun _ => 0)))] H := hP
  have hD : va_D A [(h0, .inr (2, [.ref q1, .int 0])), (q1, .inl (cA, N, .inl (fun _ => 0)))] := hD
  subst hAe
  exact rt_a (u := (q1, cA)) X (fun t ht hvm => ⟨by rw [ht]; exact hP, va_K.moved hvm hK, hD⟩) hS hr hlk dX2_init_11
def qf (a0 a1 a2 a3 a4 a5 a6 a7 : Nat) : Nat → Nat := fun k => match k with | 0 => a0 | 1 => a1 | 2 => a2 | 3 => a3 | 4 => a4 | 5 => a5 | 6 => a6 | _ => a7
def cf (a0 a1 a2 : ClassId) : Nat → ClassId := fun k => match k with | 0 => a0 | 1 => a1 | _ => a2
def KE0 : KS := (fun _ => 0, 0, false, 0, 0, fun _ => 0, 0, 0, fun _ => 0, 0, false, false, 0, 0, 0, 0, 0, 0)
def ME0 : MS := (fun _ => 0, 0, false, false, 0, 0, 0, 0, 0, 0, 0, 0, fun _ => 0, 0, 0, false, 0, 0, 0, 0, 0, 0, 0, 0, fun _ => 0)
def clB (a : Int32) : Int32 := if (64 : Int32) < (if a < (65536 : Int32) then a else (65536 : Int32)) then (if a < (65536 : Int32) then a else (65536 : Int32)) else (64 : Int32)
def clP (a : Int32) : Int32 := if (0 : Int32) < (if a < (4096 : Int32) then a else (4096 : Int32)) then (if a < (4096 : Int32) then a else (4096 : Int32)) else (0 : Int32)
set_option maxHeartbeats 4000000 in
set_option maxRecDepth 100000 in
theorem c_X4_init (l : Launch) (D : va_G) (h0 nW nB : Nat) (hk : KOk nW nB) (a1 a2 : Int32) (hw0 : ¬ (clB a1 >>> ((2 : Int32) &&& 31)) < 0) (hwN : (clB a1 >>> ((2 : Int32) &&& 31)).toNatClampNeg = nW) (hb0 : ¬ clP a2 < 0) (hbN : (clP a2).toNatClampNeg = nB) : Ma l yX4_init cX4_init 3 2 7 20525 D [] [.ref h0, .int a1, .int a2] [(h0, .inr (4, [.null, .null, .null, .null, .null, .int 0, .int 0, .long 0, .int 0]))] (fun sz => va_Qv (fun (_ : (Nat → Nat) × (Nat → ClassId)) => True) (fun u t => u.1 0 = h0 ∧ va_P D vwCl (cwK u.1 u.2 nW nB (f_X4_reset nW nB KE0)) t.heap ∧ va_K D vwCl (tysK u.2) t ∧ va_D (va_A [(h0, .inr (4, [.null, .null, .null, .null, .null, .int 0, .int 0, .long 0, .int 0]))] sz) (cwK u.1 u.2 nW nB (f_X4_reset nW nB KE0))) (va_A [(h0, .inr (4, [.null, .null, .null, .null, .null, .int 0, .int 0, .long 0, .int 0]))] sz)) := by
  refine entA (own := RX4) rfl (by decide) (Nat.le_of_ble_eq_true rfl) ?_
  intro p e s m below meth c A ls X hr hlk hmn hAe hA hP hD hS hl
  have hx := X.1.1
  have hb := X.1.2.1
  have hts := X.1.2.2.2.2
  have hown := X.1.2.2.2.1
  have hml := X.1.2.2.1
  have hK := X.2
  have hl : lv_has ls 3 [(0, .ref h0), (1, .int a1), (2, .int a2)] := hl
  refine lv_aload_n hx hb dX4_init_0 rfl (lv_at hl 0 rfl) ?_
  refine W.objInit hx hb hown (hts _ wd_54) (hts _ wd_55) (hts _ wd_56) rfl (by rw [hml]; exact hl.1) rfl dX4_init_1 (Nat.le_of_ble_eq_true rfl) (Nat.le_of_ble_eq_true rfl) ?_
  refine W.eq (g2 := F0 m 4 ls []) rfl ?_
  refine lv_aload_n hx hb dX4_init_4 rfl (lv_at hl 0 rfl) ?_
  refine va_new (ci := 1) (fs := [.null]) (C := RX1) (T := TX1) (N := 1) hx hb hts inX1 tyX1 tyX1_ok hown (hts _ wd_57) (hts _ wd_58) (hts _ wd_41) hK hP hD hS hA rfl (fun j hj => by rcases (show j = 0 by omega) with rfl <;> rfl) (by show (0 + 1 : Nat) ≤ 7; decide) (by show (0 + 1 : Nat) ≤ 20525; decide) dX4_init_5 (fun q1 H hP hD hS => ?_)
  have hP : va_P D vwCl [(h0, .inr (4, [.null, .null, .null, .null, .null, .int 0, .int 0, .long 0, .int 0])), (q1, .inr (1, [.null]))] H := hP
  have hD : va_D A [(h0, .inr (4, [.null, .null, .null, .null, .null, .int 0, .int 0, .long 0, .int 0])), (q1, .inr (1, [.null]))] := hD
  refine W.widen (k := 1) (n := 1) (by omega) (by omega) ?_
  refine lv_dup hx hb dX4_init_8 rfl ?_
  refine lv_bipush (v := (64 : Int32)) hx hb dX4_init_9 (by decide) ?_
  refine lv_ldc (v := (65536 : Int32)) hx hb hown (hts _ wd_59) dX4_init_11 ?_
  refine lv_iload_n hx hb dX4_init_13 rfl (lv_at hl 1 rfl) ?_
  refine va_mmin hx hb (hml.trans hl.1.symm) hown (hts _ wd_60) (hts _ wd_61) (hts _ wd_42) (hts _ wm_min) (by decide) (Nat.le_of_ble_eq_true rfl) (by show (1 : Nat) ≤ 7; decide) (by show (1 : Nat) ≤ 20525; decide) dX4_init_14 ?_
  refine va_mmax hx hb (hml.trans hl.1.symm) hown (hts _ wd_63) (hts _ wd_64) (hts _ wd_42) (hts _ wm_max) (by decide) (Nat.le_of_ble_eq_true rfl) (by show (1 : Nat) ≤ 7; decide) (by show (1 : Nat) ≤ 20525; decide) dX4_init_17 ?_
  have hFc := va_free (wc := [(q1, .inr (1, [.null]))]) hD hS hA [1] rfl
  refine va_callv (ct_I X (c_X1_init l D q1 nW (clB a1) hw0 hwN hk.1) okc_X1_init rfl wd_67 wd_66 ⟨by decide, by decide⟩ (hP.sub (ws' := [(q1, .inr (1, [.null]))]) [1] rfl) (hK.sub (tys' := []) [] rfl) (hD.sub (ws' := [(q1, .inr (1, [.null]))]) [1] (by decide) rfl) rfl hl.1 rfl (Nat.le_of_ble_eq_true rfl) dX4_init_20 ⟨by show (1 + 1 : Nat) ≤ 7; decide, by show (1 + 16384 : Nat) ≤ 20525; decide⟩) hS (fun q _ h => hFc q h) hFc (fun u t H1 locs ht hvm hw hB hz1 hk1 hS => ?_)
  obtain ⟨q2, c2⟩ := u
  obtain ⟨hP1, hK1, hD1⟩ := hB
  rw [ht] at hP1
  obtain ⟨hP, hD⟩ := va_join (wr := [(h0, .inr (4, [.null, .null, .null, .null, .null, .int 0, .int 0, .long 0, .int 0]))]) (w1 := [(q1, .inr (1, [.ref q2])), (q2, .inl (c2, nW, .inl (fun _ => 0)))]) hP hD [1] [0] rfl rfl (by decide) (by decide) hk1 hFc hP1 hD1
  have hK : va_K D vwCl [(c2, .int)] s := (hK.sub (tys' := []) [] rfl).app (va_K.moved hvm.symm hK1)
  generalize H1 = H at hP hS ⊢
  have hP : va_P D vwCl [(h0, .inr (4, [.null, .null, .null, .null, .null, .int 0, .int 0, .long 0, .int 0])), (q1, .inr (1, [.ref q2])), (q2, .inl (c2, nW, .inl (fun _ => 0)))] H := hP
  have hD : va_D A [(h0, .inr (4, [.null, .null, .null, .null, .null, .int 0, .int 0, .long 0, .int 0])), (q1, .inr (1, [.ref q2])), (q2, .inl (c2, nW, .inl (fun _ => 0)))] := hD
  refine W.widen (k := 2) (n := 16385) (by omega) (by omega) ?_
  refine va_putF (D := D) (ci := 4) (v := .ref q1) (ty := .object "RvCore$Memory") (C := RX4) (T := TX4) (N := 9) hx hb hts inX4 tyX4 tyX4_ok nmX4 hown hK hP hD hS 0 rfl rfl 0 (by decide) (hts _ wd_154) (fun _ h9 => h9) rfl hmn rfl (by decide +kernel) rfl rfl (Nat.le_of_ble_eq_true rfl) dX4_init_23 (fun H locs hP hD hS => ?_)
  have hP : va_P D vwCl [(h0, .inr (4, [.ref q1, .null, .null, .null, .null, .int 0, .int 0, .long 0, .int 0])), (q1, .inr (1, [.ref q2])), (q2, .inl (c2, nW, .inl (fun _ => 0)))] H := hP
  have hD : va_D A [(h0, .inr (4, [.ref q1, .null, .null, .null, .null, .int 0, .int 0, .long 0, .int 0])), (q1, .inr (1, [.ref q2])), (q2, .inl (c2, nW, .inl (fun _ => 0)))] := hD
  refine lv_aload_n hx hb dX4_init_26 rfl (lv_at hl 0 rfl) ?_
  refine va_new (ci := 3) (fs := [.long 0, .long 0]) (C := RX3) (T := TX3) (N := 2) hx hb hts inX3 tyX3 tyX3_ok hown (hts _ wd_75) (hts _ wd_76) (hts _ wd_43) hK hP hD hS hA rfl (fun j hj => by rcases (show j = 0 ∨ j = 1 by omega) with rfl | rfl <;> rfl) (by show (2 + 1 : Nat) ≤ 7; decide) (by show (16385 + 2 : Nat) ≤ 20525; decide) dX4_init_27 (fun q3 H hP hD hS => ?_)
  have hP : va_P D vwCl [(h0, .inr (4, [.ref q1, .null, .null, .null, .null, .int 0, .int 0, .long 0, .int 0])), (q1, .inr (1, [.ref q2])), (q2, .inl (c2, nW, .inl (fun _ => 0))), (q3, .inr (3, [.long 0, .long 0]))] H := hP
  have hD : va_D A [(h0, .inr (4, [.ref q1, .null, .null, .null, .null, .int 0, .int 0, .long 0, .int 0])), (q1, .inr (1, [.ref q2])), (q2, .inl (c2, nW, .inl (fun _ => 0))), (q3, .inr (3, [.long 0, .long 0]))] := hD
  refine W.widen (k := 3) (n := 16387) (by omega) (by omega) ?_
  refine lv_dup hx hb dX4_init_30 rfl ?_
  have hFc := va_free (wc := [(q3, .inr (3, [.long 0, .long 0]))]) hD hS hA [3] rfl
  refine va_callv (ct_IN X (c_X3_init l D q3) okc_X3_init rfl wd_78 wd_77 ⟨by decide, by decide⟩ (hP.sub (ws' := [(q3, .inr (3, [.long 0, .long 0]))]) [3] rfl) (hK.sub (tys' := []) [] rfl) (hD.sub (ws' := [(q3, .inr (3, [.long 0, .long 0]))]) [3] (by decide) rfl) rfl hl.1 rfl (Nat.le_of_ble_eq_true rfl) dX4_init_31 ⟨by show (3 + 0 : Nat) ≤ 7; decide, by show (16387 + 0 : Nat) ≤ 20525; decide⟩) hS (fun q _ h => hFc q h) hFc (fun u t H1 locs ht hvm hw hB hz1 hk1 hS => ?_)
  obtain ⟨hP1, hD1⟩ := hB
  rw [ht] at hP1
  obtain ⟨hP, hD⟩ := va_join (wr := [(h0, .inr (4, [.ref q1, .null, .null, .null, .null, .int 0, .int 0, .long 0, .int 0])), (q1, .inr (1, [.ref q2])), (q2, .inl (c2, nW, .inl (fun _ => 0)))]) (w1 := [(q3, .inr (3, [.long 0, .long 0]))]) hP hD [3] [0, 1, 2] rfl rfl (by decide) (by decide) hk1 hFc hP1 hD1
  generalize H1 = H at hP hS ⊢
  have hP : va_P D vwCl [(h0, .inr (4, [.ref q1, .null, .null, .null, .null, .int 0, .int 0, .long 0, .int 0])), (q1, .inr (1, [.ref q2])), (q2, .inl (c2, nW, .inl (fun _ => 0))), (q3, .inr (3, [.long 0, .long 0]))] H := hP
  have hD : va_D A [(h0, .inr (4, [.ref q1, .null, .null, .null, .null, .int 0, .int 0, .long 0, .int 0])), (q1, .inr (1, [.ref q2])), (q2, .inl (c2, nW, .inl (fun _ => 0))), (q3, .inr (3, [.long 0, .long 0]))] := hD
  refine W.widen (k := 3) (n := 16387) (by omega) (by omega) ?_
  refine va_putF (D := D) (ci := 4) (v := .ref q3) (ty := .object "RvCore$Timer") (C := RX4) (T := TX4) (N := 9) hx hb hts inX4 tyX4 tyX4_ok nmX4 hown hK hP hD hS 0 rfl rfl 1 (by decide) (hts _ wd_155) (fun _ h9 => h9) rfl hmn rfl (by decide +kernel) rfl rfl (Nat.le_of_ble_eq_true rfl) dX4_init_34 (fun H locs hP hD hS => ?_)
  have hP : va_P D vwCl [(h0, .inr (4, [.ref q1, .ref q3, .null, .null, .null, .int 0, .int 0, .long 0, .int 0])), (q1, .inr (1, [.ref q2])), (q2, .inl (c2, nW, .inl (fun _ => 0))), (q3, .inr (3, [.long 0, .long 0]))] H := hP
  have hD : va_D A [(h0, .inr (4, [.ref q1, .ref q3, .null, .null, .null, .int 0, .int 0, .long 0, .int 0])), (q1, .inr (1, [.ref q2])), (q2, .inl (c2, nW, .inl (fun _ => 0))), (q3, .inr (3, [.long 0, .long 0]))] := hD
  refine lv_aload_n hx hb dX4_init_37 rfl (lv_at hl 0 rfl) ?_
  refine va_new (ci := 2) (fs := [.null, .int 0]) (C := RX2) (T := TX2) (N := 2) hx hb hts inX2 tyX2 tyX2_ok hown (hts _ wd_90) (hts _ wd_91) (hts _ wd_44) hK hP hD hS hA rfl (fun j hj => by rcases (show j = 0 ∨ j = 1 by omega) with rfl | rfl <;> rfl) (by show (3 + 1 : Nat) ≤ 7; decide) (by show (16387 + 2 : Nat) ≤ 20525; decide) dX4_init_38 (fun q4 H hP hD hS => ?_)
  have hP : va_P D vwCl [(h0, .inr (4, [.ref q1, .ref q3, .null, .null, .null, .int 0, .int 0, .long 0, .int 0])), (q1, .inr (1, [.ref q2])), (q2, .inl (c2, nW, .inl (fun _ => 0))), (q3, .inr (3, [.long 0, .long 0])), (q4, .inr (2, [.null, .int 0]))] H := hP
  have hD : va_D A [(h0, .inr (4, [.ref q1, .ref q3, .null, .null, .null, .int 0, .int 0, .long 0, .int 0])), (q1, .inr (1, [.ref q2])), (q2, .inl (c2, nW, .inl (fun _ => 0))), (q3, .inr (3, [.long 0, .long 0])), (q4, .inr (2, [.null, .int 0]))] := hD
  refine W.widen (k := 4) (n := 16389) (by omega) (by omega) ?_
  refine lv_dup hx hb dX4_init_41 rfl ?_
  refine lv_iconst (v := (0 : Int32)) hx hb dX4_init_42 (by decide) ?_
  refine lv_sipush (v := (4096 : Int32)) hx hb dX4_init_43 (by decide) ?_
  refine lv_iload_n hx hb dX4_init_46 rfl (lv_at hl 2 rfl) ?_
  refine va_mmin hx hb (hml.trans hl.1.symm) hown (hts _ wd_60) (hts _ wd_61) (hts _ wd_42) (hts _ wm_min) (by decide) (Nat.le_of_ble_eq_true rfl) (by show (4 : Nat) ≤ 7; decide) (by show (16389 : Nat) ≤ 20525; decide) dX4_init_47 ?_
  refine va_mmax hx hb (hml.trans hl.1.symm) hown (hts _ wd_63) (hts _ wd_64) (hts _ wd_42) (hts _ wm_max) (by decide) (Nat.le_of_ble_eq_true rfl) (by show (4 : Nat) ≤ 7; decide) (by show (16389 : Nat) ≤ 20525; decide) dX4_init_50 ?_
  have hFc := va_free (wc := [(q4, .inr (2, [.null, .int 0]))]) hD hS hA [4] rfl
  refine va_callv (ct_I X (c_X2_init l D q4 nB (clP a2) hb0 hbN hk.2) okc_X2_init rfl wd_93 wd_92 ⟨by decide, by decide⟩ (hP.sub (ws' := [(q4, .inr (2, [.null, .int 0]))]) [4] rfl) (hK.sub (tys' := []) [] rfl) (hD.sub (ws' := [(q4, .inr (2, [.null, .int 0]))]) [4] (by decide) rfl) rfl hl.1 rfl (Nat.le_of_ble_eq_true rfl) dX4_init_53 ⟨by show (4 + 1 : Nat) ≤ 7; decide, by show (16389 + 4096 : Nat) ≤ 20525; decide⟩) hS (fun q _ h => hFc q h) hFc (fun u t H1 locs ht hvm hw hB hz1 hk1 hS => ?_)
  obtain ⟨q5, c5⟩ := u
  obtain ⟨hP1, hK1, hD1⟩ := hB
  rw [ht] at hP1
  obtain ⟨hP, hD⟩ := va_join (wr := [(h0, .inr (4, [.ref q1, .ref q3, .null, .null, .null, .int 0, .int 0, .long 0, .int 0])), (q1, .inr (1, [.ref q2])), (q2, .inl (c2, nW, .inl (fun _ => 0))), (q3, .inr (3, [.long 0, .long 0]))]) (w1 := [(q4, .inr (2, [.ref q5, .int 0])), (q5, .inl (c5, nB, .inl (fun _ => 0)))]) hP hD [4] [0, 1, 2, 3] rfl rfl (by decide) (by decide) hk1 hFc hP1 hD1
  have hK : va_K D vwCl [(c2, .int), (c5, .byte)] s := (hK.sub (tys' := [(c2, .int)]) [0] rfl).app (va_K.moved hvm.symm hK1)
  generalize H1 = H at hP hS ⊢
  have hP : va_P D vwCl [(h0, .inr (4, [.ref q1, .ref q3, .null, .null, .null, .int 0, .int 0, .long 0, .int 0])), (q1, .inr (1, [.ref q2])), (q2, .inl (c2, nW, .inl (fun _ => 0))), (q3, .inr (3, [.long 0, .long 0])), (q4, .inr (2, [.ref q5, .int 0])), (q5, .inl (c5, nB, .inl (fun _ => 0)))] H := hP
  have hD : va_D A [(h0, .inr (4, [.ref q1, .ref q3, .null, .null, .null, .int 0, .int 0, .long 0, .int 0])), (q1, .inr (1, [.ref q2])), (q2, .inl (c2, nW, .inl (fun _ => 0))), (q3, .inr (3, [.long 0, .long 0])), (q4, .inr (2, [.ref q5, .int 0])), (q5, .inl (c5, nB, .inl (fun _ => 0)))] := hD
  refine W.widen (k := 5) (n := 20485) (by omega) (by omega) ?_
  refine va_putF (D := D) (ci := 4) (v := .ref q4) (ty := .object "RvCore$Port") (C := RX4) (T := TX4) (N := 9) hx hb hts inX4 tyX4 tyX4_ok nmX4 hown hK hP hD hS 0 rfl rfl 2 (by decide) (hts _ wd_156) (fun _ h9 => h9) rfl hmn rfl (by decide +kernel) rfl rfl (Nat.le_of_ble_eq_true rfl) dX4_init_56 (fun H locs hP hD hS => ?_)
  have hP : va_P D vwCl [(h0, .inr (4, [.ref q1, .ref q3, .ref q4, .null, .null, .int 0, .int 0, .long 0, .int 0])), (q1, .inr (1, [.ref q2])), (q2, .inl (c2, nW, .inl (fun _ => 0))), (q3, .inr (3, [.long 0, .long 0])), (q4, .inr (2, [.ref q5, .int 0])), (q5, .inl (c5, nB, .inl (fun _ => 0)))] H := hP
  have hD : va_D A [(h0, .inr (4, [.ref q1, .ref q3, .ref q4, .null, .null, .int 0, .int 0, .long 0, .int 0])), (q1, .inr (1, [.ref q2])), (q2, .inl (c2, nW, .inl (fun _ => 0))), (q3, .inr (3, [.long 0, .long 0])), (q4, .inr (2, [.ref q5, .int 0])), (q5, .inl (c5, nB, .inl (fun _ => 0)))] := hD
  refine lv_aload_n hx hb dX4_init_59 rfl (lv_at hl 0 rfl) ?_
  refine va_new (ci := 0) (fs := [.int 0, .int 0, .int 0, .int 0, .int 0, .int 0, .int 0, .int 0]) (C := RX0) (T := TX0) (N := 8) hx hb hts inX0 tyX0 tyX0_ok hown (hts _ wd_105) (hts _ wd_106) (hts _ wd_45) hK hP hD hS hA rfl (fun j hj => by rcases (show j = 0 ∨ j = 1 ∨ j = 2 ∨ j = 3 ∨ j = 4 ∨ j = 5 ∨ j = 6 ∨ j = 7 by omega) with rfl | rfl | rfl | rfl | rfl | rfl | rfl | rfl <;> rfl) (by show (5 + 1 : Nat) ≤ 7; decide) (by show (20485 + 8 : Nat) ≤ 20525; decide) dX4_init_60 (fun q6 H hP hD hS => ?_)
  have hP : va_P D vwCl [(h0, .inr (4, [.ref q1, .ref q3, .ref q4, .null, .null, .int 0, .int 0, .long 0, .int 0])), (q1, .inr (1, [.ref q2])), (q2, .inl (c2, nW, .inl (fun _ => 0))), (q3, .inr (3, [.long 0, .long 0])), (q4, .inr (2, [.ref q5, .int 0])), (q5, .inl (c5, nB, .inl (fun _ => 0))), (q6, .inr (0, [.int 0, .int 0, .int 0, .int 0, .int 0, .int 0, .int 0, .int 0]))] H := hP
  have hD : va_D A [(h0, .inr (4, [.ref q1, .ref q3, .ref q4, .null, .null, .int 0, .int 0, .long 0, .int 0])), (q1, .inr (1, [.ref q2])), (q2, .inl (c2, nW, .inl (fun _ => 0))), (q3, .inr (3, [.long 0, .long 0])), (q4, .inr (2, [.ref q5, .int 0])), (q5, .inl (c5, nB, .inl (fun _ => 0))), (q6, .inr (0, [.int 0, .int 0, .int 0, .int 0, .int 0, .int 0, .int 0, .int 0]))] := hD
  refine W.widen (k := 6) (n := 20493) (by omega) (by omega) ?_
  refine lv_dup hx hb dX4_init_63 rfl ?_
  have hFc := va_free (wc := [(q6, .inr (0, [.int 0, .int 0, .int 0, .int 0, .int 0, .int 0, .int 0, .int 0]))]) hD hS hA [6] rfl
  refine va_callv (ct_IN X (c_X0_init l D q6) okc_X0_init rfl wd_108 wd_107 ⟨by decide, by decide⟩ (hP.sub (ws' := [(q6, .inr (0, [.int 0, .int 0, .int 0, .int 0, .int 0, .int 0, .int 0, .int 0]))]) [6] rfl) (hK.sub (tys' := []) [] rfl) (hD.sub (ws' := [(q6, .inr (0, [.int 0, .int 0, .int 0, .int 0, .int 0, .int 0, .int 0, .int 0]))]) [6] (by decide) rfl) rfl hl.1 rfl (Nat.le_of_ble_eq_true rfl) dX4_init_64 ⟨by show (6 + 0 : Nat) ≤ 7; decide, by show (20493 + 0 : Nat) ≤ 20525; decide⟩) hS (fun q _ h => hFc q h) hFc (fun u t H1 locs ht hvm hw hB hz1 hk1 hS => ?_)
  obtain ⟨hP1, hD1⟩ := hB
  rw [ht] at hP1
  obtain ⟨hP, hD⟩ := va_join (wr := [(h0, .inr (4, [.ref q1, .ref q3, .ref q4, .null, .null, .int 0, .int 0, .long 0, .int 0])), (q1, .inr (1, [.ref q2])), (q2, .inl (c2, nW, .inl (fun _ => 0))), (q3, .inr (3, [.long 0, .long 0])), (q4, .inr (2, [.ref q5, .int 0])), (q5, .inl (c5, nB, .inl (fun _ => 0)))]) (w1 := [(q6, .inr (0, [.int 0, .int 0, .int 0, .int 0, .int 0, .int 0, .int 0, .int 0]))]) hP hD [6] [0, 1, 2, 3, 4, 5] rfl rfl (by decide) (by decide) hk1 hFc hP1 hD1
  generalize H1 = H at hP hS ⊢
  have hP : va_P D vwCl [(h0, .inr (4, [.ref q1, .ref q3, .ref q4, .null, .null, .int 0, .int 0, .long 0, .int 0])), (q1, .inr (1, [.ref q2])), (q2, .inl (c2, nW, .inl (fun _ => 0))), (q3, .inr (3, [.long 0, .long 0])), (q4, .inr (2, [.ref q5, .int 0])), (q5, .inl (c5, nB, .inl (fun _ => 0))), (q6, .inr (0, [.int 0, .int 0, .int 0, .int 0, .int 0, .int 0, .int 0, .int 0]))] H := hP
  have hD : va_D A [(h0, .inr (4, [.ref q1, .ref q3, .ref q4, .null, .null, .int 0, .int 0, .long 0, .int 0])), (q1, .inr (1, [.ref q2])), (q2, .inl (c2, nW, .inl (fun _ => 0))), (q3, .inr (3, [.long 0, .long 0])), (q4, .inr (2, [.ref q5, .int 0])), (q5, .inl (c5, nB, .inl (fun _ => 0))), (q6, .inr (0, [.int 0, .int 0, .int 0, .int 0, .int 0, .int 0, .int 0, .int 0]))] := hD
  refine W.widen (k := 6) (n := 20493) (by omega) (by omega) ?_
  refine va_putF (D := D) (ci := 4) (v := .ref q6) (ty := .object "RvCore$Controls") (C := RX4) (T := TX4) (N := 9) hx hb hts inX4 tyX4 tyX4_ok nmX4 hown hK hP hD hS 0 rfl rfl 3 (by decide) (hts _ wd_157) (fun _ h9 => h9) rfl hmn rfl (by decide +kernel) rfl rfl (Nat.le_of_ble_eq_true rfl) dX4_init_67 (fun H locs hP hD hS => ?_)
  have hP : va_P D vwCl [(h0, .inr (4, [.ref q1, .ref q3, .ref q4, .ref q6, .null, .int 0, .int 0, .long 0, .int 0])), (q1, .inr (1, [.ref q2])), (q2, .inl (c2, nW, .inl (fun _ => 0))), (q3, .inr (3, [.long 0, .long 0])), (q4, .inr (2, [.ref q5, .int 0])), (q5, .inl (c5, nB, .inl (fun _ => 0))), (q6, .inr (0, [.int 0, .int 0, .int 0, .int 0, .int 0, .int 0, .int 0, .int 0]))] H := hP
  have hD : va_D A [(h0, .inr (4, [.ref q1, .ref q3, .ref q4, .ref q6, .null, .int 0, .int 0, .long 0, .int 0])), (q1, .inr (1, [.ref q2])), (q2, .inl (c2, nW, .inl (fun _ => 0))), (q3, .inr (3, [.long 0, .long 0])), (q4, .inr (2, [.ref q5, .int 0])), (q5, .inl (c5, nB, .inl (fun _ => 0))), (q6, .inr (0, [.int 0, .int 0, .int 0, .int 0, .int 0, .int 0, .int 0, .int 0]))] := hD
  refine lv_aload_n hx hb dX4_init_70 rfl (lv_at hl 0 rfl) ?_
  refine lv_bipush (v := (32 : Int32)) hx hb dX4_init_71 (by decide) ?_
  refine va_newa (atype := .int) (N' := 32) (a0 := (32, .inl (fun _ => 0))) hx hb (hts _ wd_74) rfl hK hP hD hS hA (fun cA => rfl) (by decide) (by decide) (by decide) (by show (6 + 1 : Nat) ≤ 7; decide) (by show (20493 + 32 : Nat) ≤ 20525; decide) dX4_init_73 (fun q7 c7 H hK hP hD hS => ?_)
  have hP : va_P D vwCl [(h0, .inr (4, [.ref q1, .ref q3, .ref q4, .ref q6, .null, .int 0, .int 0, .long 0, .int 0])), (q1, .inr (1, [.ref q2])), (q2, .inl (c2, nW, .inl (fun _ => 0))), (q3, .inr (3, [.long 0, .long 0])), (q4, .inr (2, [.ref q5, .int 0])), (q5, .inl (c5, nB, .inl (fun _ => 0))), (q6, .inr (0, [.int 0, .int 0, .int 0, .int 0, .int 0, .int 0, .int 0, .int 0])), (q7, .inl (c7, 32, .inl (fun _ => 0)))] H := hP
  have hD : va_D A [(h0, .inr (4, [.ref q1, .ref q3, .ref q4, .ref q6, .null, .int 0, .int 0, .long 0, .int 0])), (q1, .inr (1, [.ref q2])), (q2, .inl (c2, nW, .inl (fun _ => 0))), (q3, .inr (3, [.long 0, .long 0])), (q4, .inr (2, [.ref q5, .int 0])), (q5, .inl (c5, nB, .inl (fun _ => 0))), (q6, .inr (0, [.int 0, .int 0, .int 0, .int 0, .int 0, .int 0, .int 0, .int 0])), (q7, .inl (c7, 32, .inl (fun _ => 0)))] := hD
  have hK : va_K D vwCl [(c2, .int), (c5, .byte), (c7, .int)] s := hK
  refine W.widen (k := 7) (n := 20525) (by omega) (by omega) ?_
  refine va_putF (D := D) (ci := 4) (v := .ref q7) (ty := .array .int) (C := RX4) (T := TX4) (N := 9) hx hb hts inX4 tyX4 tyX4_ok nmX4 hown hK hP hD hS 0 rfl rfl 4 (by decide) (hts _ wd_158) (fun _ h9 => h9) rfl hmn rfl (by decide +kernel) rfl rfl (Nat.le_of_ble_eq_true rfl) dX4_init_75 (fun H locs hP hD hS => ?_)
  have hP : va_P D vwCl [(h0, .inr (4, [.ref q1, .ref q3, .ref q4, .ref q6, .ref q7, .int 0, .int 0, .long 0, .int 0])), (q1, .inr (1, [.ref q2])), (q2, .inl (c2, nW, .inl (fun _ => 0))), (q3, .inr (3, [.long 0, .long 0])), (q4, .inr (2, [.ref q5, .int 0])), (q5, .inl (c5, nB, .inl (fun _ => 0))), (q6, .inr (0, [.int 0, .int 0, .int 0, .int 0, .int 0, .int 0, .int 0, .int 0])), (q7, .inl (c7, 32, .inl (fun _ => 0)))] H := hP
  have hD : va_D A [(h0, .inr (4, [.ref q1, .ref q3, .ref q4, .ref q6, .ref q7, .int 0, .int 0, .long 0, .int 0])), (q1, .inr (1, [.ref q2])), (q2, .inl (c2, nW, .inl (fun _ => 0))), (q3, .inr (3, [.long 0, .long 0])), (q4, .inr (2, [.ref q5, .int 0])), (q5, .inl (c5, nB, .inl (fun _ => 0))), (q6, .inr (0, [.int 0, .int 0, .int 0, .int 0, .int 0, .int 0, .int 0, .int 0])), (q7, .inl (c7, 32, .inl (fun _ => 0)))] := hD
  -- 7 cells, 20525 slots
  have hP : va_P D vwCl (cwK (qf h0 q1 q2 q3 q4 q5 q6 q7) (cf c2 c5 c7) nW nB KE0) H := hP.sub [0, 1, 2, 3, 4, 5, 6, 7] rfl
  have hD : va_D A (cwK (qf h0 q1 q2 q3 q4 q5 q6 q7) (cf c2 c5 c7) nW nB KE0) := hD.sub [0, 1, 2, 3, 4, 5, 6, 7] (by decide) rfl
  have hK : va_K D vwCl (tysK (cf c2 c5 c7)) s := hK
  have X : Cx p m c cX4_init 3 s [Value.ref h0, .int a1, .int a2].toArray RX4 D (tysK (cf c2 c5 c7)) := ⟨X.1, hK⟩
  refine lv_aload_n hx hb dX4_init_78 rfl (lv_at hl 0 rfl) ?_
  refine go_v (rn_V (ci := 4) (q0 := 0) X (c_X4_reset l D (qf h0 q1 q2 q3 q4 q5 q6 q7) (cf c2 c5 c7) nW nB hk KE0) ok_X4_reset wd_137 ⟨by decide, by decide⟩ hP hD rfl rfl rfl hl.1 rfl (Nat.le_of_ble_eq_true rfl) dX4_init_79 ⟨by show (7 : Nat) ≤ 7; decide, by show (20525 : Nat) ≤ 20525; decide⟩) hP hD hS hA (fun H locs hP hD hS => ?_)
  subst hAe
  exact rt_a (u := (qf h0 q1 q2 q3 q4 q5 q6 q7, cf c2 c5 c7)) X (fun t ht hvm => ⟨rfl, by rw [ht]; exact hP, va_K.moved hvm hK, hD⟩) hS hr hlk dX4_init_82
