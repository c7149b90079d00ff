
/-! THE CLAIM OUT OF ONE WALK OF THE LAW'S BODY. Your part is whole_start (and what it stands on); all else here is the same for every law, but numbers. -/
def R_law : String := "RvCoreLaw"
def lw_P (b : Addr) (xs : List Int32) (args : Array Value) (s : State) : Prop := args = #[.ref b] ∧ s.IntsAt b xs ∧ xs.length ≤ 1538 ∧ (Jvm.Cond.and given_1 narrow_1).before args s = true
def lw_Q (_ : Array Value) (s : State) (o : Outcome) (t : State) : Prop := o = .returned (some (.int 1)) ∧ Framed s o t [] 600000 7302250
def lw_Z (below : List Frame) (a : Array Value) (s : State) : State → Prop := fun t => ∃ o, t.status = .running ∧ Ended t below o ∧ lw_Q a s o t
/-- the law's own end, with 1 on the stack, nothing written that was there before, its room as the claim has it -/
theorem lw_ret {p : Program} {l : Launch} {e : Env} {s : State} {m : MethodId} {below : List Frame} {meth : Method} {c : Code} {b : Nat} (hx : p.tables.exec = Jvm.exec) (hb : c.code = code) (hr : meth.sig.returnType = ret) (hlocks : meth.locks = false) {pc : Nat} {H : Heap} {ls : Array Slot} (hdg : decode code pc = .ok (.ireturn, 1)) : W p l e room_1 s m #[Value.ref b] below meth c H [] 600000 7302250 (lw_Z below #[Value.ref b] s) (F0 m pc ls [.int 1]) := by
  intro T hT X
  obtain ⟨fs, hret, hrun, hended, hW, hframe⟩ := X.leave (v := some (.int 1)) (hlocks := hlocks) (fun h => by rw [hr] at h; cases h)
  have hmeth' : T.vm.method? m = some meth := X.method'
  refine ⟨T.setFrames fs, ?_, .returned (some (.int 1)), hrun, hended, rfl, ⟨_, rfl⟩, hW, hframe⟩
  jvm_step X.here [X.here.top, hx, hb, hdg, hmeth', hr, ret, narrow_b1]
  (try refine ⟨rfl, ?_⟩); (try refine ⟨rfl, ?_⟩)
  first | (intro acts; rw [hret _ acts rfl rfl rfl]) | rw [hret _ _ rfl rfl rfl]
  exact Steps.refl _
/-- what holds at the law's entry: the machine, the code, the tables' words (any of lw_tbl by 'hts w (by decide +kernel)'), the script of L ints xs at the cell b, what the Statement gives of the start (any of its parts by flat_of_before) -/
def lw_At (p : Program) (s : State) (m : MethodId) (meth : Method) (c : Code) (b L : Nat) (xs : Nat → Int32) : Prop :=
  p.tables.exec = Jvm.exec ∧ c.code = code ∧ meth.sig.returnType = ret ∧ c.maxLocals = 4 ∧ s.vm.findClass R_law = some m.cls ∧ (∀ w ∈ lw_tbl, w.before #[Value.ref b] s = true) ∧ va_X b L xs s s.heap ∧ b < s.heap.size ∧ meth.locks = false ∧ (Jvm.Cond.and given_1 narrow_1).before #[Value.ref b] s = true

set_option maxHeartbeats 4000000 in
set_option maxRecDepth 100000 in
theorem law_loop {p : Program} {l : Launch} {e : Env} {s : State} {m : MethodId} {below : List Frame} {meth : Method} {c : Code} {D : va_G} {b L : Nat} {xs : Nat → Int32} (hL : L ≤ 1538) (C0 : LawX p s m meth c b L xs) {q r : Nat → Nat} {ca cb : Nat → ClassId} {nW nB : Nat} {sz mo : Int32} (hKa : va_K D vwCl (tysK ca) s) (hKb : va_K D vwCl (tysM cb) s) :
    ∀ (n i : Nat), i ≤ L + 2 → L + 3 < i + n → ∀ (E : KS) (F : MS), Rel nW nB sz mo E F → ∀ (H : Heap) (locs : List Loc) (ls : Array Slot), va_P D vwCl (cwK q ca nW nB E ++ cwM r cb sz mo F) H → va_D (AL s) (cwK q ca nW nB E ++ cwM r cb sz mo F) → va_S (AL s) s.heap H locs → lv_has ls 4 [(3, .int (nI i)), (0, .ref b), (1, .ref (q 0)), (2, .ref (r 0))] → W p l e room_1 s m #[Value.ref b] below meth c H locs 600000 7302250 (lw_Z below #[Value.ref b] s) (F0 m 38 ls []) := by
  obtain ⟨hfix, hr, hX, hbl, hlk⟩ := C0
  have hx := hfix.1
  have hb := hfix.2.1
  have hown := hfix.2.2.2.1
  have hts := hfix.2.2.2.2
  have hA : ∀ q : Nat, s.heap.size ≤ q → AL s q := fun _ h => h
  have hbA : ¬ AL s b := Nat.not_le.mpr hbl
  have XK : Cx p m c code 4 s #[Value.ref b] RL D (tysK ca) := ⟨hfix, hKa⟩
  have XM : Cx p m c code 4 s #[Value.ref b] RL D (tysM cb) := ⟨hfix, hKb⟩
  intro n
  induction n with
  | zero => intro i h1 h2; exact absurd h2 (by omega)
  | succ n ih =>
    intro i hi hn E F hRel H locs ls hP hD hS hl
    have hk := (rel_c hRel).1
    have hkm := (rel_c hRel).2.1
    refine lv_iload_n hx hb dL_law_38 rfl (lv_at hl 0 rfl) ?_
    refine lv_aload_n hx hb dL_law_39 rfl (lv_at hl 1 rfl) ?_
    refine va_slen hx hb hX hbl hbA hS dL_law_40 ?_
    refine lv_iconst (v := (3 : Int32)) hx hb dL_law_41 (by decide) ?_
    refine lv_isub hx hb dL_law_42 ?_
    refine lv_icmp_gt (tgt := 392) hx hb dL_law_43 (by decide) (fun c_0 => ?_) (fun c_0 => ?_)
    · refine lv_iconst (v := 1) hx hb dL_law_392 (by decide) ?_
      refine va_forget (fun q hq => hS.2.2 q hq) ?_
      exact lw_ret hx hb hr hlk dL_law_393
    have hlt : i + 3 ≤ L := by
      rcases Nat.lt_or_ge L (i + 3) with q2 | q2
      · exact absurd ((law_c (by omega) hL).mpr q2) c_0
      · exact q2
    have in0 : vp_in (nI i) L := vp_in_nI (by omega) (by omega)
    have in1 : vp_in (nI i + (1 : Int32)) L := by rw [nI_1]; exact vp_in_nI (by omega) (by omega)
    have in2 : vp_in (nI i + (2 : Int32)) L := by rw [nI_2]; exact vp_in_nI (by omega) (by omega)
    have kJ : ∀ (E : KS) (F : MS), Rel nW nB sz mo E F → ∀ (H : Heap) (locs : List Loc), va_P D vwCl (cwK q ca nW nB E ++ cwM r cb sz mo F) H → va_D (AL s) (cwK q ca nW nB E ++ cwM r cb sz mo F) → va_S (AL s) s.heap H locs → W p l e room_1 s m #[Value.ref b] below meth c H locs 600000 7302250 (lw_Z below #[Value.ref b] s) (F0 m 386 ls []) := by
      intro E F hRel H locs hP hD hS
      refine lv_iinc (v := nI (i + 3)) (lv' := [(3, .int (nI (i + 3))), (0, .ref b), (1, .ref (q 0)), (2, .ref (r 0))]) hx hb dL_law_386 hl (k := 0) rfl (nI_3 i) (by decide) rfl (fun ls hl => ?_)
      refine lv_goto (tgt := 38) hx hb dL_law_389 (by decide) ?_
      exact ih (i + 3) (by omega) (by omega) E F hRel H locs ls hP hD hS hl
    refine lv_aload_n hx hb dL_law_46 rfl (lv_at hl 1 rfl) ?_
    refine lv_iload_n hx hb dL_law_47 rfl (lv_at hl 0 rfl) ?_
    refine va_sld hx hb hX hbl hbA hS in0 dL_law_48 ?_
    refine lv_bipush (v := (15 : Int32)) hx hb dL_law_49 (by decide) ?_
    refine lv_iand hx hb dL_law_51 ?_
    generalize xs (nI i).toNatClampNeg &&& (15 : Int32) = w
    by_cases c_1 : w = (0 : Int32)
    · refine lv_tableIn (off := 68) (tgt := 120) hx hb dL_law_52 (by rw [c_1]; decide) (by rw [c_1]; decide) (by rw [c_1]; decide) (by decide) ?_
      refine lv_aload_n hx hb dL_law_120 rfl (lv_at hl 2 rfl) ?_
      refine goL_v (rn_V (ci := 4) (q0 := 0) XK (c_X4_reset l D q ca nW nB hk E ) ok_X4_reset wd_182 ⟨by decide, by decide⟩ (sp_P hP).1 (sp_D hD).1 rfl rfl rfl hl.1 rfl (Nat.le_of_ble_eq_true rfl) dL_law_121 ⟨Nat.le_refl _, Nat.le_refl _⟩) hP hD hS hA (fun H locs hP hD hS => ?_)
      refine lv_aload_n hx hb dL_law_124 rfl (lv_at hl 3 rfl) ?_
      refine goR_v (rn_V (ci := 5) (q0 := 0) XM (c_X5_reset l D r cb sz mo hkm F ) ok_X5_reset wd_551 ⟨by decide, by decide⟩ (sp_P hP).2 (sp_D hD).2.1 rfl rfl rfl hl.1 rfl (Nat.le_of_ble_eq_true rfl) dL_law_125 ⟨Nat.le_refl _, Nat.le_refl _⟩) hP hD hS hA (fun H locs hP hD hS => ?_)
      refine lv_goto (tgt := 386) hx hb dL_law_128 (by decide) ?_
      exact kJ (f_X4_reset nW nB E) (f_X5_reset sz mo F) (rel_reset hRel) H locs hP hD hS
    by_cases c_2 : w = (1 : Int32)
    · refine lv_tableIn (off := 79) (tgt := 131) hx hb dL_law_52 (by rw [c_2]; decide) (by rw [c_2]; decide) (by rw [c_2]; decide) (by decide) ?_
      refine lv_aload_n hx hb dL_law_131 rfl (lv_at hl 2 rfl) ?_
      refine lv_aload_n hx hb dL_law_132 rfl (lv_at hl 1 rfl) ?_
      refine lv_iload_n hx hb dL_law_133 rfl (lv_at hl 0 rfl) ?_
      refine lv_iconst (v := (1 : Int32)) hx hb dL_law_134 (by decide) ?_
      refine lv_iadd hx hb dL_law_135 ?_
      refine va_sld hx hb hX hbl hbA hS in1 dL_law_136 ?_
      refine lv_aload_n hx hb dL_law_137 rfl (lv_at hl 1 rfl) ?_
      refine lv_iload_n hx hb dL_law_138 rfl (lv_at hl 0 rfl) ?_
      refine lv_iconst (v := (2 : Int32)) hx hb dL_law_139 (by decide) ?_
      refine lv_iadd hx hb dL_law_140 ?_
      refine va_sld hx hb hX hbl hbA hS in2 dL_law_141 ?_
      refine goL_i (rn_V (ci := 4) (q0 := 0) XK (c_X4_poke l D q ca nW nB hk E (xs (nI i + (1 : Int32)).toNatClampNeg) (xs (nI i + (2 : Int32)).toNatClampNeg)) ok_X4_poke wd_183 ⟨by decide, by decide⟩ (sp_P hP).1 (sp_D hD).1 rfl rfl rfl hl.1 rfl (Nat.le_of_ble_eq_true rfl) dL_law_142 ⟨Nat.le_refl _, Nat.le_refl _⟩) hP hD hS hA (fun H locs hP hD hS => ?_)
      refine lv_aload_n hx hb dL_law_145 rfl (lv_at hl 3 rfl) ?_
      refine lv_aload_n hx hb dL_law_146 rfl (lv_at hl 1 rfl) ?_
      refine lv_iload_n hx hb dL_law_147 rfl (lv_at hl 0 rfl) ?_
      refine lv_iconst (v := (1 : Int32)) hx hb dL_law_148 (by decide) ?_
      refine lv_iadd hx hb dL_law_149 ?_
      refine va_sld hx hb hX hbl hbA hS in1 dL_law_150 ?_
      refine lv_aload_n hx hb dL_law_151 rfl (lv_at hl 1 rfl) ?_
      refine lv_iload_n hx hb dL_law_152 rfl (lv_at hl 0 rfl) ?_
      refine lv_iconst (v := (2 : Int32)) hx hb dL_law_153 (by decide) ?_
      refine lv_iadd hx hb dL_law_154 ?_
      refine va_sld hx hb hX hbl hbA hS in2 dL_law_155 ?_
      refine goR_i (rn_V (ci := 5) (q0 := 0) XM (c_X5_poke l D r cb sz mo hkm F (xs (nI i + (1 : Int32)).toNatClampNeg) (xs (nI i + (2 : Int32)).toNatClampNeg)) ok_X5_poke wd_552 ⟨by decide, by decide⟩ (sp_P hP).2 (sp_D hD).2.1 rfl rfl rfl hl.1 rfl (Nat.le_of_ble_eq_true rfl) dL_law_156 ⟨Nat.le_refl _, Nat.le_refl _⟩) hP hD hS hA (fun H locs hP hD hS => ?_)
      exact lv_icmp_eq (tgt := 386) hx hb dL_law_159 (by decide) (fun _ => kJ (f_X4_poke nW nB E (xs (nI i + (1 : Int32)).toNatClampNeg) (xs (nI i + (2 : Int32)).toNatClampNeg)).2 (f_X5_poke sz mo F (xs (nI i + (1 : Int32)).toNatClampNeg) (xs (nI i + (2 : Int32)).toNatClampNeg)).2 (rel_poke hRel (xs (nI i + (1 : Int32)).toNatClampNeg) (xs (nI i + (2 : Int32)).toNatClampNeg)).2 H locs hP hD hS) (fun h => absurd (congrArg b2i (rel_poke hRel (xs (nI i + (1 : Int32)).toNatClampNeg) (xs (nI i + (2 : Int32)).toNatClampNeg)).1) h)
    by_cases c_3 : w = (2 : Int32)
    · refine lv_tableIn (off := 112) (tgt := 164) hx hb dL_law_52 (by rw [c_3]; decide) (by rw [c_3]; decide) (by rw [c_3]; decide) (by decide) ?_
      refine lv_aload_n hx hb dL_law_164 rfl (lv_at hl 2 rfl) ?_
      refine lv_aload_n hx hb dL_law_165 rfl (lv_at hl 1 rfl) ?_
      refine lv_iload_n hx hb dL_law_166 rfl (lv_at hl 0 rfl) ?_
      refine lv_iconst (v := (1 : Int32)) hx hb dL_law_167 (by decide) ?_
      refine lv_iadd hx hb dL_law_168 ?_
      refine va_sld hx hb hX hbl hbA hS in1 dL_law_169 ?_
      refine lv_aload_n hx hb dL_law_170 rfl (lv_at hl 1 rfl) ?_
      refine lv_iload_n hx hb dL_law_171 rfl (lv_at hl 0 rfl) ?_
      refine lv_iconst (v := (2 : Int32)) hx hb dL_law_172 (by decide) ?_
      refine lv_iadd hx hb dL_law_173 ?_
      refine va_sld hx hb hX hbl hbA hS in2 dL_law_174 ?_
      refine goL_i (rn_V (ci := 4) (q0 := 0) XK (c_X4_load l D q ca nW nB hk E (xs (nI i + (1 : Int32)).toNatClampNeg) (xs (nI i + (2 : Int32)).toNatClampNeg)) ok_X4_load wd_201 ⟨by decide, by decide⟩ (sp_P hP).1 (sp_D hD).1 rfl rfl rfl hl.1 rfl (Nat.le_of_ble_eq_true rfl) dL_law_175 ⟨Nat.le_refl _, Nat.le_refl _⟩) hP hD hS hA (fun H locs hP hD hS => ?_)
      refine lv_aload_n hx hb dL_law_178 rfl (lv_at hl 3 rfl) ?_
      refine lv_aload_n hx hb dL_law_179 rfl (lv_at hl 1 rfl) ?_
      refine lv_iload_n hx hb dL_law_180 rfl (lv_at hl 0 rfl) ?_
      refine lv_iconst (v := (1 : Int32)) hx hb dL_law_181 (by decide) ?_
      refine lv_iadd hx hb dL_law_182 ?_
      refine va_sld hx hb hX hbl hbA hS in1 dL_law_183 ?_
      refine lv_aload_n hx hb dL_law_184 rfl (lv_at hl 1 rfl) ?_
      refine lv_iload_n hx hb dL_law_185 rfl (lv_at hl 0 rfl) ?_
      refine lv_iconst (v := (2 : Int32)) hx hb dL_law_186 (by decide) ?_
      refine lv_iadd hx hb dL_law_187 ?_
      refine va_sld hx hb hX hbl hbA hS in2 dL_law_188 ?_
      refine goR_i (rn_V (ci := 5) (q0 := 0) XM (c_X5_load l D r cb sz mo hkm F (xs (nI i + (1 : Int32)).toNatClampNeg) (xs (nI i + (2 : Int32)).toNatClampNeg)) ok_X5_load wd_560 ⟨by decide, by decide⟩ (sp_P hP).2 (sp_D hD).2.1 rfl rfl rfl hl.1 rfl (Nat.le_of_ble_eq_true rfl) dL_law_189 ⟨Nat.le_refl _, Nat.le_refl _⟩) hP hD hS hA (fun H locs hP hD hS => ?_)
      exact lv_icmp_eq (tgt := 386) hx hb dL_law_192 (by decide) (fun _ => kJ (f_X4_load nW nB E (xs (nI i + (1 : Int32)).toNatClampNeg) (xs (nI i + (2 : Int32)).toNatClampNeg)).2 (f_X5_load sz mo F (xs (nI i + (1 : Int32)).toNatClampNeg) (xs (nI i + (2 : Int32)).toNatClampNeg)).2 (rel_load hRel (xs (nI i + (1 : Int32)).toNatClampNeg) (xs (nI i + (2 : Int32)).toNatClampNeg)).2 H locs hP hD hS) (fun h => absurd (congrArg b2i (rel_load hRel (xs (nI i + (1 : Int32)).toNatClampNeg) (xs (nI i + (2 : Int32)).toNatClampNeg)).1) h)
    by_cases c_4 : w = (3 : Int32)
    · refine lv_tableIn (off := 145) (tgt := 197) hx hb dL_law_52 (by rw [c_4]; decide) (by rw [c_4]; decide) (by rw [c_4]; decide) (by decide) ?_
      refine lv_aload_n hx hb dL_law_197 rfl (lv_at hl 2 rfl) ?_
      refine lv_aload_n hx hb dL_law_198 rfl (lv_at hl 1 rfl) ?_
      refine lv_iload_n hx hb dL_law_199 rfl (lv_at hl 0 rfl) ?_
      refine lv_iconst (v := (1 : Int32)) hx hb dL_law_200 (by decide) ?_
      refine lv_iadd hx hb dL_law_201 ?_
      refine va_sld hx hb hX hbl hbA hS in1 dL_law_202 ?_
      refine goL_i (rn_V (ci := 4) (q0 := 0) XK (c_X4_peek l D q ca nW nB hk E (xs (nI i + (1 : Int32)).toNatClampNeg)) ok_X4_peek wd_205 ⟨by decide, by decide⟩ (sp_P hP).1 (sp_D hD).1 rfl rfl rfl hl.1 rfl (Nat.le_of_ble_eq_true rfl) dL_law_203 ⟨Nat.le_refl _, Nat.le_refl _⟩) hP hD hS hA (fun H locs hP hD hS => ?_)
      refine lv_aload_n hx hb dL_law_206 rfl (lv_at hl 3 rfl) ?_
      refine lv_aload_n hx hb dL_law_207 rfl (lv_at hl 1 rfl) ?_
      refine lv_iload_n hx hb dL_law_208 rfl (lv_at hl 0 rfl) ?_
      refine lv_iconst (v := (1 : Int32)) hx hb dL_law_209 (by decide) ?_
      refine lv_iadd hx hb dL_law_210 ?_
      refine va_sld hx hb hX hbl hbA hS in1 dL_law_211 ?_
      refine goR_i (rn_V (ci := 5) (q0 := 0) XM (c_X5_peek l D r cb sz mo hkm F (xs (nI i + (1 : Int32)).toNatClampNeg)) ok_X5_peek wd_568 ⟨by decide, by decide⟩ (sp_P hP).2 (sp_D hD).2.1 rfl rfl rfl hl.1 rfl (Nat.le_of_ble_eq_true rfl) dL_law_212 ⟨Nat.le_refl _, Nat.le_refl _⟩) hP hD hS hA (fun H locs hP hD hS => ?_)
      exact lv_icmp_eq (tgt := 386) hx hb dL_law_215 (by decide) (fun _ => kJ E F hRel H locs hP hD hS) (fun h => absurd (rel_peek hRel (xs (nI i + (1 : Int32)).toNatClampNeg)) h)
    by_cases c_5 : w = (4 : Int32)
    · refine lv_tableIn (off := 168) (tgt := 220) hx hb dL_law_52 (by rw [c_5]; decide) (by rw [c_5]; decide) (by rw [c_5]; decide) (by decide) ?_
      refine lv_aload_n hx hb dL_law_220 rfl (lv_at hl 2 rfl) ?_
      refine goL_i (rn_V (ci := 4) (q0 := 0) XK (c_X4_step l D q ca nW nB hk E (rel_ks hRel)) ok_X4_step wd_213 ⟨by decide, by decide⟩ (sp_P hP).1 (sp_D hD).1 rfl rfl rfl hl.1 rfl (Nat.le_of_ble_eq_true rfl) dL_law_221 ⟨Nat.le_refl _, Nat.le_refl _⟩) hP hD hS hA (fun H locs hP hD hS => ?_)
      refine lv_aload_n hx hb dL_law_224 rfl (lv_at hl 3 rfl) ?_
      refine goR_i (rn_V (ci := 5) (q0 := 0) XM (c_X5_step l D r cb sz mo hkm F (rel_ms hRel)) ok_X5_step wd_582 ⟨by decide, by decide⟩ (sp_P hP).2 (sp_D hD).2.1 rfl rfl rfl hl.1 rfl (Nat.le_of_ble_eq_true rfl) dL_law_225 ⟨Nat.le_refl _, Nat.le_refl _⟩) hP hD hS hA (fun H locs hP hD hS => ?_)
      exact lv_icmp_eq (tgt := 386) hx hb dL_law_228 (by decide) (fun _ => kJ (f_X4_step nW nB E).2 (f_X5_step sz mo F).2 (rel_step hRel).2 H locs hP hD hS) (fun h => absurd (rel_step hRel).1 h)
    by_cases c_6 : w = (5 : Int32)
    · refine lv_tableIn (off := 181) (tgt := 233) hx hb dL_law_52 (by rw [c_6]; decide) (by rw [c_6]; decide) (by rw [c_6]; decide) (by decide) ?_
      refine lv_aload_n hx hb dL_law_233 rfl (lv_at hl 2 rfl) ?_
      refine lv_aload_n hx hb dL_law_234 rfl (lv_at hl 1 rfl) ?_
      refine lv_iload_n hx hb dL_law_235 rfl (lv_at hl 0 rfl) ?_
      refine lv_iconst (v := (1 : Int32)) hx hb dL_law_236 (by decide) ?_
      refine lv_iadd hx hb dL_law_237 ?_
      refine va_sld hx hb hX hbl hbA hS in1 dL_law_238 ?_
      refine goL_i (rn_V (ci := 4) (q0 := 0) XK (c_X4_run l D q ca nW nB hk E (xs (nI i + (1 : Int32)).toNatClampNeg) (fun j => rel_ks (rel_it j hRel))) ok_X4_run wd_413 ⟨by decide, by decide⟩ (sp_P hP).1 (sp_D hD).1 rfl rfl rfl hl.1 rfl (Nat.le_of_ble_eq_true rfl) dL_law_239 ⟨Nat.le_refl _, Nat.le_refl _⟩) hP hD hS hA (fun H locs hP hD hS => ?_)
      refine lv_aload_n hx hb dL_law_242 rfl (lv_at hl 3 rfl) ?_
      refine lv_aload_n hx hb dL_law_243 rfl (lv_at hl 1 rfl) ?_
      refine lv_iload_n hx hb dL_law_244 rfl (lv_at hl 0 rfl) ?_
      refine lv_iconst (v := (1 : Int32)) hx hb dL_law_245 (by decide) ?_
      refine lv_iadd hx hb dL_law_246 ?_
      refine va_sld hx hb hX hbl hbA hS in1 dL_law_247 ?_
      refine goR_i (rn_V (ci := 5) (q0 := 0) XM (c_X5_run l D r cb sz mo hkm F (xs (nI i + (1 : Int32)).toNatClampNeg) (fun j => rel_ms (rel_it j hRel))) ok_X5_run wd_688 ⟨by decide, by decide⟩ (sp_P hP).2 (sp_D hD).2.1 rfl rfl rfl hl.1 rfl (Nat.le_of_ble_eq_true rfl) dL_law_248 ⟨Nat.le_refl _, Nat.le_refl _⟩) hP hD hS hA (fun H locs hP hD hS => ?_)
      exact lv_icmp_eq (tgt := 386) hx hb dL_law_251 (by decide) (fun _ => kJ (f_X4_run nW nB E (xs (nI i + (1 : Int32)).toNatClampNeg)).2 (f_X5_run sz mo F (xs (nI i + (1 : Int32)).toNatClampNeg)).2 (rel_run hRel (xs (nI i + (1 : Int32)).toNatClampNeg)).2 H locs hP hD hS) (fun h => absurd (rel_run hRel (xs (nI i + (1 : Int32)).toNatClampNeg)).1 h)
    by_cases c_7 : w = (6 : Int32)
    · refine lv_tableIn (off := 204) (tgt := 256) hx hb dL_law_52 (by rw [c_7]; decide) (by rw [c_7]; decide) (by rw [c_7]; decide) (by decide) ?_
      refine lv_aload_n hx hb dL_law_256 rfl (lv_at hl 2 rfl) ?_
      refine goL_v (rn_V (ci := 4) (q0 := 0) XK (c_X4_tick l D q ca nW nB hk E ) ok_X4_tick wd_422 ⟨by decide, by decide⟩ (sp_P hP).1 (sp_D hD).1 rfl rfl rfl hl.1 rfl (Nat.le_of_ble_eq_true rfl) dL_law_257 ⟨Nat.le_refl _, Nat.le_refl _⟩) hP hD hS hA (fun H locs hP hD hS => ?_)
      refine lv_aload_n hx hb dL_law_260 rfl (lv_at hl 3 rfl) ?_
      refine goR_v (rn_V (ci := 5) (q0 := 0) XM (c_X5_tick l D r cb sz mo hkm F ) ok_X5_tick wd_698 ⟨by decide, by decide⟩ (sp_P hP).2 (sp_D hD).2.1 rfl rfl rfl hl.1 rfl (Nat.le_of_ble_eq_true rfl) dL_law_261 ⟨Nat.le_refl _, Nat.le_refl _⟩) hP hD hS hA (fun H locs hP hD hS => ?_)
      refine lv_goto (tgt := 386) hx hb dL_law_264 (by decide) ?_
      exact kJ (f_X4_tick nW nB E) (f_X5_tick sz mo F) (rel_tick hRel) H locs hP hD hS
    by_cases c_8 : w = (7 : Int32)
    · refine lv_tableIn (off := 215) (tgt := 267) hx hb dL_law_52 (by rw [c_8]; decide) (by rw [c_8]; decide) (by rw [c_8]; decide) (by decide) ?_
      refine lv_aload_n hx hb dL_law_267 rfl (lv_at hl 2 rfl) ?_
      refine lv_aload_n hx hb dL_law_268 rfl (lv_at hl 1 rfl) ?_
      refine lv_iload_n hx hb dL_law_269 rfl (lv_at hl 0 rfl) ?_
      refine lv_iconst (v := (1 : Int32)) hx hb dL_law_270 (by decide) ?_
      refine lv_iadd hx hb dL_law_271 ?_
      refine va_sld hx hb hX hbl hbA hS in1 dL_law_272 ?_
      refine goL_i (rn_V (ci := 4) (q0 := 0) XK (c_X4_reg l D q ca nW nB hk E (xs (nI i + (1 : Int32)).toNatClampNeg)) ok_X4_reg wd_426 ⟨by decide, by decide⟩ (sp_P hP).1 (sp_D hD).1 rfl rfl rfl hl.1 rfl (Nat.le_of_ble_eq_true rfl) dL_law_273 ⟨Nat.le_refl _, Nat.le_refl _⟩) hP hD hS hA (fun H locs hP hD hS => ?_)
      refine lv_aload_n hx hb dL_law_276 rfl (lv_at hl 3 rfl) ?_
      refine lv_aload_n hx hb dL_law_277 rfl (lv_at hl 1 rfl) ?_
      refine lv_iload_n hx hb dL_law_278 rfl (lv_at hl 0 rfl) ?_
      refine lv_iconst (v := (1 : Int32)) hx hb dL_law_279 (by decide) ?_
      refine lv_iadd hx hb dL_law_280 ?_
      refine va_sld hx hb hX hbl hbA hS in1 dL_law_281 ?_
      refine goR_i (rn_V (ci := 5) (q0 := 0) XM (c_X5_reg l D r cb sz mo hkm F (xs (nI i + (1 : Int32)).toNatClampNeg)) ok_X5_reg wd_699 ⟨by decide, by decide⟩ (sp_P hP).2 (sp_D hD).2.1 rfl rfl rfl hl.1 rfl (Nat.le_of_ble_eq_true rfl) dL_law_282 ⟨Nat.le_refl _, Nat.le_refl _⟩) hP hD hS hA (fun H locs hP hD hS => ?_)
      exact lv_icmp_eq (tgt := 386) hx hb dL_law_285 (by decide) (fun _ => kJ E F hRel H locs hP hD hS) (fun h => absurd (rel_reg hRel (xs (nI i + (1 : Int32)).toNatClampNeg)) h)
    by_cases c_9 : w = (8 : Int32)
    · refine lv_tableIn (off := 238) (tgt := 290) hx hb dL_law_52 (by rw [c_9]; decide) (by rw [c_9]; decide) (by rw [c_9]; decide) (by decide) ?_
      refine lv_aload_n hx hb dL_law_290 rfl (lv_at hl 2 rfl) ?_
      refine goL_i (rn_V (ci := 4) (q0 := 0) XK (c_X4_pc l D q ca nW nB hk E ) ok_X4_pc wd_430 ⟨by decide, by decide⟩ (sp_P hP).1 (sp_D hD).1 rfl rfl rfl hl.1 rfl (Nat.le_of_ble_eq_true rfl) dL_law_291 ⟨Nat.le_refl _, Nat.le_refl _⟩) hP hD hS hA (fun H locs hP hD hS => ?_)
      refine lv_aload_n hx hb dL_law_294 rfl (lv_at hl 3 rfl) ?_
      refine goR_i (rn_V (ci := 5) (q0 := 0) XM (c_X5_pc l D r cb sz mo hkm F ) ok_X5_pc wd_703 ⟨by decide, by decide⟩ (sp_P hP).2 (sp_D hD).2.1 rfl rfl rfl hl.1 rfl (Nat.le_of_ble_eq_true rfl) dL_law_295 ⟨Nat.le_refl _, Nat.le_refl _⟩) hP hD hS hA (fun H locs hP hD hS => ?_)
      exact lv_icmp_eq (tgt := 386) hx hb dL_law_298 (by decide) (fun _ => kJ E F hRel H locs hP hD hS) (fun h => absurd (rel_pc hRel) h)
    by_cases c_10 : w = (9 : Int32)
    · refine lv_tableIn (off := 251) (tgt := 303) hx hb dL_law_52 (by rw [c_10]; decide) (by rw [c_10]; decide) (by rw [c_10]; decide) (by decide) ?_
      refine lv_aload_n hx hb dL_law_303 rfl (lv_at hl 2 rfl) ?_
      refine lv_aload_n hx hb dL_law_304 rfl (lv_at hl 1 rfl) ?_
      refine lv_iload_n hx hb dL_law_305 rfl (lv_at hl 0 rfl) ?_
      refine lv_iconst (v := (1 : Int32)) hx hb dL_law_306 (by decide) ?_
      refine lv_iadd hx hb dL_law_307 ?_
      refine va_sld hx hb hX hbl hbA hS in1 dL_law_308 ?_
      refine goL_i (rn_V (ci := 4) (q0 := 0) XK (c_X4_csr l D q ca nW nB hk E (xs (nI i + (1 : Int32)).toNatClampNeg)) ok_X4_csr wd_434 ⟨by decide, by decide⟩ (sp_P hP).1 (sp_D hD).1 rfl rfl rfl hl.1 rfl (Nat.le_of_ble_eq_true rfl) dL_law_309 ⟨Nat.le_refl _, Nat.le_refl _⟩) hP hD hS hA (fun H locs hP hD hS => ?_)
      refine lv_aload_n hx hb dL_law_312 rfl (lv_at hl 3 rfl) ?_
      refine lv_aload_n hx hb dL_law_313 rfl (lv_at hl 1 rfl) ?_
      refine lv_iload_n hx hb dL_law_314 rfl (lv_at hl 0 rfl) ?_
      refine lv_iconst (v := (1 : Int32)) hx hb dL_law_315 (by decide) ?_
      refine lv_iadd hx hb dL_law_316 ?_
      refine va_sld hx hb hX hbl hbA hS in1 dL_law_317 ?_
      refine goR_i (rn_V (ci := 5) (q0 := 0) XM (c_X5_csr l D r cb sz mo hkm F (xs (nI i + (1 : Int32)).toNatClampNeg)) ok_X5_csr wd_572 ⟨by decide, by decide⟩ (sp_P hP).2 (sp_D hD).2.1 rfl rfl rfl hl.1 rfl (Nat.le_of_ble_eq_true rfl) dL_law_318 ⟨Nat.le_refl _, Nat.le_refl _⟩) hP hD hS hA (fun H locs hP hD hS => ?_)
      exact lv_icmp_eq (tgt := 386) hx hb dL_law_321 (by decide) (fun _ => kJ E F hRel H locs hP hD hS) (fun h => absurd (rel_csr hRel (xs (nI i + (1 : Int32)).toNatClampNeg)) h)
    by_cases c_11 : w = (10 : Int32)
    · refine lv_tableIn (off := 274) (tgt := 326) hx hb dL_law_52 (by rw [c_11]; decide) (by rw [c_11]; decide) (by rw [c_11]; decide) (by decide) ?_
      refine lv_aload_n hx hb dL_law_326 rfl (lv_at hl 2 rfl) ?_
      refine lv_aload_n hx hb dL_law_327 rfl (lv_at hl 1 rfl) ?_
      refine lv_iload_n hx hb dL_law_328 rfl (lv_at hl 0 rfl) ?_
      refine lv_iconst (v := (1 : Int32)) hx hb dL_law_329 (by decide) ?_
      refine lv_iadd hx hb dL_law_330 ?_
      refine va_sld hx hb hX hbl hbA hS in1 dL_law_331 ?_
      refine goL_l (rn_V (ci := 4) (q0 := 0) XK (c_X4_told l D q ca nW nB hk E (xs (nI i + (1 : Int32)).toNatClampNeg)) ok_X4_told wd_438 ⟨by decide, by decide⟩ (sp_P hP).1 (sp_D hD).1 rfl rfl rfl hl.1 rfl (Nat.le_of_ble_eq_true rfl) dL_law_332 ⟨Nat.le_refl _, Nat.le_refl _⟩) hP hD hS hA (fun H locs hP hD hS => ?_)
      refine lv_aload_n hx hb dL_law_335 rfl (lv_at hl 3 rfl) ?_
      refine lv_aload_n hx hb dL_law_336 rfl (lv_at hl 1 rfl) ?_
      refine lv_iload_n hx hb dL_law_337 rfl (lv_at hl 0 rfl) ?_
      refine lv_iconst (v := (1 : Int32)) hx hb dL_law_338 (by decide) ?_
      refine lv_iadd hx hb dL_law_339 ?_
      refine va_sld hx hb hX hbl hbA hS in1 dL_law_340 ?_
      refine goR_l (rn_V (ci := 5) (q0 := 0) XM (c_X5_told l D r cb sz mo hkm F (xs (nI i + (1 : Int32)).toNatClampNeg)) ok_X5_told wd_707 ⟨by decide, by decide⟩ (sp_P hP).2 (sp_D hD).2.1 rfl rfl rfl hl.1 rfl (Nat.le_of_ble_eq_true rfl) dL_law_341 ⟨Nat.le_refl _, Nat.le_refl _⟩) hP hD hS hA (fun H locs hP hD hS => ?_)
      refine W.lcmp hx hb dL_law_344 ?_
      rw [rel_told hRel (xs (nI i + (1 : Int32)).toNatClampNeg), lcmp_self]
      refine lv_if_eq (tgt := 386) hx hb dL_law_345 (by decide) (fun _ => ?_) (fun h => absurd rfl h)
      exact kJ E F hRel H locs hP hD hS
    by_cases c_12 : w = (11 : Int32)
    · refine lv_tableIn (off := 298) (tgt := 350) hx hb dL_law_52 (by rw [c_12]; decide) (by rw [c_12]; decide) (by rw [c_12]; decide) (by decide) ?_
      refine lv_aload_n hx hb dL_law_350 rfl (lv_at hl 2 rfl) ?_
      refine goL_i (rn_V (ci := 4) (q0 := 0) XK (c_X4_outSize l D q ca nW nB hk E ) ok_X4_outSize wd_442 ⟨by decide, by decide⟩ (sp_P hP).1 (sp_D hD).1 rfl rfl rfl hl.1 rfl (Nat.le_of_ble_eq_true rfl) dL_law_351 ⟨Nat.le_refl _, Nat.le_refl _⟩) hP hD hS hA (fun H locs hP hD hS => ?_)
      refine lv_aload_n hx hb dL_law_354 rfl (lv_at hl 3 rfl) ?_
      refine goR_i (rn_V (ci := 5) (q0 := 0) XM (c_X5_outSize l D r cb sz mo hkm F ) ok_X5_outSize wd_711 ⟨by decide, by decide⟩ (sp_P hP).2 (sp_D hD).2.1 rfl rfl rfl hl.1 rfl (Nat.le_of_ble_eq_true rfl) dL_law_355 ⟨Nat.le_refl _, Nat.le_refl _⟩) hP hD hS hA (fun H locs hP hD hS => ?_)
      exact lv_icmp_eq (tgt := 386) hx hb dL_law_358 (by decide) (fun _ => kJ E F hRel H locs hP hD hS) (fun h => absurd (rel_outSize hRel) h)
    by_cases c_13 : w = (12 : Int32)
    · refine lv_tableIn (off := 311) (tgt := 363) hx hb dL_law_52 (by rw [c_13]; decide) (by rw [c_13]; decide) (by rw [c_13]; decide) (by decide) ?_
      refine lv_aload_n hx hb dL_law_363 rfl (lv_at hl 2 rfl) ?_
      refine lv_aload_n hx hb dL_law_364 rfl (lv_at hl 1 rfl) ?_
      refine lv_iload_n hx hb dL_law_365 rfl (lv_at hl 0 rfl) ?_
      refine lv_iconst (v := (1 : Int32)) hx hb dL_law_366 (by decide) ?_
      refine lv_iadd hx hb dL_law_367 ?_
      refine va_sld hx hb hX hbl hbA hS in1 dL_law_368 ?_
      refine goL_i (rn_V (ci := 4) (q0 := 0) XK (c_X4_out l D q ca nW nB hk E (xs (nI i + (1 : Int32)).toNatClampNeg)) ok_X4_out wd_446 ⟨by decide, by decide⟩ (sp_P hP).1 (sp_D hD).1 rfl rfl rfl hl.1 rfl (Nat.le_of_ble_eq_true rfl) dL_law_369 ⟨Nat.le_refl _, Nat.le_refl _⟩) hP hD hS hA (fun H locs hP hD hS => ?_)
      refine lv_aload_n hx hb dL_law_372 rfl (lv_at hl 3 rfl) ?_
      refine lv_aload_n hx hb dL_law_373 rfl (lv_at hl 1 rfl) ?_
      refine lv_iload_n hx hb dL_law_374 rfl (lv_at hl 0 rfl) ?_
      refine lv_iconst (v := (1 : Int32)) hx hb dL_law_375 (by decide) ?_
      refine lv_iadd hx hb dL_law_376 ?_
      refine va_sld hx hb hX hbl hbA hS in1 dL_law_377 ?_
      refine goR_i (rn_V (ci := 5) (q0 := 0) XM (c_X5_out l D r cb sz mo hkm F (xs (nI i + (1 : Int32)).toNatClampNeg) (rel_ms hRel)) ok_X5_out wd_715 ⟨by decide, by decide⟩ (sp_P hP).2 (sp_D hD).2.1 rfl rfl rfl hl.1 rfl (Nat.le_of_ble_eq_true rfl) dL_law_378 ⟨Nat.le_refl _, Nat.le_refl _⟩) hP hD hS hA (fun H locs hP hD hS => ?_)
      exact lv_icmp_eq (tgt := 386) hx hb dL_law_381 (by decide) (fun _ => kJ E F hRel H locs hP hD hS) (fun h => absurd (rel_out hRel (xs (nI i + (1 : Int32)).toNatClampNeg)) h)
    refine lv_tableOut (tgt := 386) hx hb dL_law_52 (by have := lv_neT (a := 0) c_1 (by decide); have := lv_neT (a := 1) c_2 (by decide); have := lv_neT (a := 2) c_3 (by decide); have := lv_neT (a := 3) c_4 (by decide); have := lv_neT (a := 4) c_5 (by decide); have := lv_neT (a := 5) c_6 (by decide); have := lv_neT (a := 6) c_7 (by decide); have := lv_neT (a := 7) c_8 (by decide); have := lv_neT (a := 8) c_9 (by decide); have := lv_neT (a := 9) c_10 (by decide); have := lv_neT (a := 10) c_11 (by decide); have := lv_neT (a := 11) c_12 (by decide); have := lv_neT (a := 12) c_13 (by decide); omega) (by decide) ?_
    exact kJ E F hRel H locs hP hD hS
