/-! a whole step -/
section STEP
variable {nW nB : Nat} {sz mo : Int32} {F : MS} {W B : Nat → Int32} {lat : Int32}
/-- the reference's state once it has taken a word apart -/
def decF (F : MS) (w : Int32) : MS := mnext_ (mg_ (mt_ (ms_ (mf_ (md_ (mword_ F w) ((w >>> ((7 : Int32) &&& 31)) &&& (31 : Int32))) ((w >>> ((12 : Int32) &&& 31)) &&& (7 : Int32))) ((w >>> ((15 : Int32) &&& 31)) &&& (31 : Int32))) ((w >>> ((20 : Int32) &&& 31)) &&& (31 : Int32))) ((w >>> ((25 : Int32) &&& 31)) &&& (127 : Int32))) ((mpc F) + (4 : Int32))
theorem instr_eq (sz mo : Int32) (F : MS) : f_X5_instruction sz mo F = if (b2i (f_X5_isThere sz mo F (mpc F) (4 : Int32))) = 0 then (f_X5_trap sz mo F (1 : Int32) (mpc F)) else fin (f_X5_work sz mo (decF F (f_X5_get sz mo F (mpc F) (4 : Int32)))) := rfl
theorem mk_next (F : MS) (v : Int32) (W B : Nat → Int32) (lat : Int32) (ret : Int64) : mkK (mnext_ F v) W B lat ret = mkK F W B lat ret := rfl
/-- what a word's parts leave as it was -/
def SameV (F G : MS) : Prop := (∀ (W B : Nat → Int32) (lat : Int32) (ret : Int64), mkK G W B lat ret = mkK F W B lat ret) ∧ mmemory G = mmemory F ∧ msent G = msent F ∧ msentMany G = msentMany F ∧ mretired G = mretired F ∧ mx G = mx F ∧ mpc G = mpc F ∧ mmepc G = mmepc F
theorem SameV.tr {F G H : MS} (h1 : SameV F G) (h2 : SameV G H) : SameV F H := ⟨fun W B lat ret => (h2.1 W B lat ret).trans (h1.1 W B lat ret), h2.2.1.trans h1.2.1, h2.2.2.1.trans h1.2.2.1, h2.2.2.2.1.trans h1.2.2.2.1, h2.2.2.2.2.1.trans h1.2.2.2.2.1, h2.2.2.2.2.2.1.trans h1.2.2.2.2.2.1, h2.2.2.2.2.2.2.1.trans h1.2.2.2.2.2.2.1, h2.2.2.2.2.2.2.2.trans h1.2.2.2.2.2.2.2⟩
theorem sv_word (F : MS) (v : Int32) : SameV F (mword_ F v) := ⟨fun _ _ _ _ => rfl, rfl, rfl, rfl, rfl, rfl, rfl, rfl⟩
theorem sv_d (F : MS) (v : Int32) : SameV F (md_ F v) := ⟨fun _ _ _ _ => rfl, rfl, rfl, rfl, rfl, rfl, rfl, rfl⟩
theorem sv_f (F : MS) (v : Int32) : SameV F (mf_ F v) := ⟨fun _ _ _ _ => rfl, rfl, rfl, rfl, rfl, rfl, rfl, rfl⟩
theorem sv_s (F : MS) (v : Int32) : SameV F (ms_ F v) := ⟨fun _ _ _ _ => rfl, rfl, rfl, rfl, rfl, rfl, rfl, rfl⟩
theorem sv_t (F : MS) (v : Int32) : SameV F (mt_ F v) := ⟨fun _ _ _ _ => rfl, rfl, rfl, rfl, rfl, rfl, rfl, rfl⟩
theorem sv_g (F : MS) (v : Int32) : SameV F (mg_ F v) := ⟨fun _ _ _ _ => rfl, rfl, rfl, rfl, rfl, rfl, rfl, rfl⟩
theorem sv_next (F : MS) (v : Int32) : SameV F (mnext_ F v) := ⟨fun _ _ _ _ => rfl, rfl, rfl, rfl, rfl, rfl, rfl, rfl⟩
theorem sv_dec (F : MS) (w : Int32) : SameV F (decF F w) := ((((((sv_word F w).tr (sv_d _ _)).tr (sv_f _ _)).tr (sv_s _ _)).tr (sv_t _ _)).tr (sv_g _ _)).tr (sv_next _ _)
theorem next_dec (F : MS) (w : Int32) : mnext (decF F w) = mpc F + (4 : Int32) := rfl
theorem dec_d (F : MS) (w : Int32) : Dec w (decF F w) := ⟨rfl, rfl, rfl, rfl, rfl, rfl, by rw [(sv_dec F w).2.2.2.2.2.2.1]; exact next_dec F w⟩
theorem decF_keeps (F : MS) (w : Int32) (W B : Nat → Int32) (lat : Int32) (ret : Int64) : mkK (decF F w) W B lat ret = mkK F W B lat ret ∧ mmemory (decF F w) = mmemory F ∧ msent (decF F w) = msent F ∧ msentMany (decF F w) = msentMany F ∧ mretired (decF F w) = mretired F ∧ mx (decF F w) = mx F ∧ mpc (decF F w) = mpc F ∧ mmepc (decF F w) = mmepc F ∧ Dec w (decF F w) := by
  obtain ⟨k1, k2, k3, k4, k5, k6, k7, k8⟩ := sv_dec F w
  exact ⟨k1 W B lat ret, k2, k3, k4, k5, k6, k7, k8, dec_d F w⟩
theorem o_work (hc : Cst nW nB sz mo) (hm : MemOk nW W (mmemory F)) (hs : SntOk B (msent F) (msentMany F)) (hi : MInv mo F) {w : Int32} (hd : Dec w F) : ResOk nW mo (mretired F) lat
    (if (w &&& (127 : Int32)) = (3 : Int32) then (f_X4_read nW nB (mkK F W B lat (mretired F)) w) else (if (w &&& (127 : Int32)) = (15 : Int32) then (if (f_X4_f w) = 0 then (f_X4_retireAt nW nB (mkK F W B lat (mretired F)) ((mpc F) + (4 : Int32))) else (f_X4_illegal nW nB (mkK F W B lat (mretired F)) w)) else (if (w &&& (127 : Int32)) = (19 : Int32) then (f_X4_reckonWithNumber nW nB (mkK F W B lat (mretired F)) w) else (if (w &&& (127 : Int32)) = (23 : Int32) then (f_X4_retire nW nB (mkK F W B lat (mretired F)) w ((mpc F) + (w &&& (-4096 : Int32)))) else (if (w &&& (127 : Int32)) = (35 : Int32) then (f_X4_store nW nB (mkK F W B lat (mretired F)) w) else (if (w &&& (127 : Int32)) = (51 : Int32) then (f_X4_reckonWithRegister nW nB (mkK F W B lat (mretired F)) w) else (if (w &&& (127 : Int32)) = (55 : Int32) then (f_X4_retire nW nB (mkK F W B lat (mretired F)) w (w &&& (-4096 : Int32))) else (if (w &&& (127 : Int32)) = (99 : Int32) then (f_X4_branch nW nB (mkK F W B lat (mretired F)) w) else (if (w &&& (127 : Int32)) = (103 : Int32) then (if (f_X4_f w) = 0 then (f_X4_jump nW nB (mkK F W B lat (mretired F)) w (((f_X4_a nW nB (mkK F W B lat (mretired F)) w) + (f_X4_offsetI w)) &&& (-2 : Int32))) else (f_X4_illegal nW nB (mkK F W B lat (mretired F)) w)) else (if (w &&& (127 : Int32)) = (111 : Int32) then (f_X4_jump nW nB (mkK F W B lat (mretired F)) w ((mpc F) + (f_X4_offsetJ w))) else (if (w &&& (127 : Int32)) = (115 : Int32) then (if (f_X4_f w) = 0 then (f_X4_system nW nB (mkK F W B lat (mretired F)) w) else (f_X4_control nW nB (mkK F W B lat (mretired F)) w)) else (f_X4_illegal nW nB (mkK F W B lat (mretired F)) w))))))))))))
    (fin (f_X5_work sz mo F)) := by
  obtain ⟨hw, hdd, hf, hss, ht, hg, hn⟩ := id hd
  have il := o_ill (nB := nB) (sz := sz) (lat := lat) hm hs hi hw
  have rt := fun v => o_ret (nB := nB) (sz := sz) (lat := lat) (w := w) hm hs hi hdd hn v
  unfold f_X5_work
  rw [f_eq hf, a_eq nW nB W B lat _ hss, offJ, hw, show f_X4_offsetI w = f_X5_immediate sz mo F from by unfold f_X4_offsetI f_X5_immediate; rw [hw]]
  by_cases c1 : (w &&& (127 : Int32)) = (3 : Int32)
  · rw [if_pos c1, if_pos c1]
    exact o_read hc hm hs hi hd
  rw [if_neg c1, if_neg c1]
  by_cases c2 : (w &&& (127 : Int32)) = (15 : Int32)
  · rw [if_pos c2, if_pos c2]
    by_cases d : mf F = 0
    · rw [if_pos d, if_pos d]
      exact o_next hm hs hi hn
    · rw [if_neg d, if_neg d]
      exact il
  rw [if_neg c2, if_neg c2]
  by_cases c3 : (w &&& (127 : Int32)) = (19 : Int32)
  · rw [if_pos c3, if_pos c3]
    exact o_by hm hs hi hd
  rw [if_neg c3, if_neg c3]
  by_cases c4 : (w &&& (127 : Int32)) = (23 : Int32)
  · rw [if_pos c4, if_pos c4]
    exact rt _
  rw [if_neg c4, if_neg c4]
  by_cases c5 : (w &&& (127 : Int32)) = (35 : Int32)
  · rw [if_pos c5, if_pos c5]
    exact o_store hc hm hs hi hd
  rw [if_neg c5, if_neg c5]
  by_cases c6 : (w &&& (127 : Int32)) = (51 : Int32)
  · rw [if_pos c6, if_pos c6]
    exact o_two hm hs hi hd
  rw [if_neg c6, if_neg c6]
  by_cases c7 : (w &&& (127 : Int32)) = (55 : Int32)
  · rw [if_pos c7, if_pos c7]
    exact rt _
  rw [if_neg c7, if_neg c7]
  by_cases c8 : (w &&& (127 : Int32)) = (99 : Int32)
  · rw [if_pos c8, if_pos c8]
    exact o_branch hm hs hi hd
  rw [if_neg c8, if_neg c8]
  by_cases c9 : (w &&& (127 : Int32)) = (103 : Int32)
  · rw [if_pos c9, if_pos c9]
    by_cases d : mf F = 0
    · rw [if_pos d, if_pos d]
      exact o_jump hm hs hi hdd _
    · rw [if_neg d, if_neg d]
      exact il
  rw [if_neg c9, if_neg c9]
  by_cases c10 : (w &&& (127 : Int32)) = (111 : Int32)
  · rw [if_pos c10, if_pos c10]
    exact o_jump hm hs hi hdd _
  rw [if_neg c10, if_neg c10]
  by_cases c11 : (w &&& (127 : Int32)) = (115 : Int32)
  · rw [if_pos c11, if_pos c11]
    by_cases d : mf F = 0
    · rw [if_pos d, if_pos d]
      exact o_sys hm hs hi hd
    · rw [if_neg d, if_neg d]
      exact o_ctl hm hs hi hd d
  rw [if_neg c11, if_neg c11]
  exact il
theorem o_instr (hc : Cst nW nB sz mo) (hm : MemOk nW W (mmemory F)) (hs : SntOk B (msent F) (msentMany F)) (hi : MInv mo F) : ResOk nW mo (mretired F) lat (f_X4_instruct nW nB (mkK F W B lat (mretired F))) (f_X5_instruction sz mo F) := by
  rw [instr_eq]
  have tr := o_trap (nB := nB) (sz := sz) (lat := lat) hm hs hi (1 : Int32) (mpc F)
  rw [fin_trap] at tr
  have hh := here4 hc (mkK F W B lat (mretired F)) F hi.2.1
  unfold f_X4_instruct
  rw [kpl_setD, hh]
  by_cases c : (b2i (f_X5_isThere sz mo F (mpc F) (4 : Int32))) = 0
  · rw [if_pos c, if_pos c]
    exact tr
  · rw [if_neg c, if_neg c, gt4 hc hm hi.2.1 c]
    generalize f_X5_get sz mo F (mpc F) (4 : Int32) = w
    obtain ⟨k1, k2, k3, k4, k5, k6, k7, k8, k9⟩ := decF_keeps F w W B lat (mretired F)
    have q := o_work (lat := lat) (F := decF F w) hc (by rw [k2]; exact hm) (by rw [k3, k4]; exact hs) ⟨by rw [k6]; exact hi.1, by rw [k7]; exact hi.2.1, by rw [k8]; exact hi.2.2.1, by show 0 ≤ (msentMany (decF F w)).toInt ∧ (msentMany (decF F w)).toInt ≤ mo.toInt; rw [k4]; exact hi.2.2.2⟩ k9
    rw [k5, k1, k7] at q
    exact q
theorem mkw (F : MS) (b : Bool) (W B : Nat → Int32) (lat : Int32) (ret : Int64) : kwaiting_ (mkK F W B lat ret) b = mkK (mwaits_ F b) W B lat ret := rfl
theorem mww (F : MS) : mwaits_ F (mwaits F) = F := rfl
/-- the instruction of a step, and the waiting behind it -/
theorem o_ins (hc : Cst nW nB sz mo) (hm : MemOk nW W (mmemory F)) (hs : SntOk B (msent F) (msentMany F)) (hi : MInv mo F) : ResOk nW mo (mretired F) lat
    (if (f_X4_instruct nW nB (kwaiting_ (mkK F W B lat (mretired F)) false)).1 = (4 : Int32) then ((f_X4_instruct nW nB (kwaiting_ (mkK F W B lat (mretired F)) false)).1, (kwaiting_ (f_X4_instruct nW nB (kwaiting_ (mkK F W B lat (mretired F)) false)).2 (kwaiting (mkK F W B lat (mretired F))))) else (f_X4_instruct nW nB (kwaiting_ (mkK F W B lat (mretired F)) false)))
    (if (f_X5_instruction sz mo (mwaits_ F false)).1 = (4 : Int32) then ((f_X5_instruction sz mo (mwaits_ F false)).1, (mwaits_ (f_X5_instruction sz mo (mwaits_ F false)).2 (mwaits F))) else ((f_X5_instruction sz mo (mwaits_ F false)).1, (mwaits_ (f_X5_instruction sz mo (mwaits_ F false)).2 (mwaits (f_X5_instruction sz mo (mwaits_ F false)).2)))) := by
  have q := o_instr (lat := lat) (F := mwaits_ F false) (B := B) hc hm hs hi
  have q : ResOk nW mo (mretired F) lat (f_X4_instruct nW nB (mkK (mwaits_ F false) W B lat (mretired F))) (f_X5_instruction sz mo (mwaits_ F false)) := q
  rw [mkw]
  generalize f_X4_instruct nW nB (mkK (mwaits_ F false) W B lat (mretired F)) = k at q ⊢
  generalize f_X5_instruction sz mo (mwaits_ F false) = m at q ⊢
  obtain ⟨k1, k2⟩ := k
  obtain ⟨m1, m2⟩ := m
  obtain ⟨e1, W', B', e2, h1, h2, h3, h4⟩ := q
  dsimp only at e1 e2 h1 h2 h3 h4 ⊢
  subst e1
  by_cases c : k1 = (4 : Int32)
  · rw [if_pos c, if_pos c]
    refine ⟨rfl, W', B', ?_, h1, h2, h3, h4⟩
    dsimp only
    rw [e2, mkw]
    rfl
  · rw [if_neg c, if_neg c, mww]
    exact ⟨rfl, W', B', e2, h1, h2, h3, h4⟩
theorem o_wait (hm : MemOk nW W (mmemory F)) (hs : SntOk B (msent F) (msentMany F)) (hi : MInv mo F) : ResOk nW mo (mretired F) lat ((3 : Int32), mkK F W B lat (mretired F)) ((3 : Int32), F) :=
  ⟨rfl, W, B, by rw [if_neg (show ¬ ((3 : Int32), F).1 = 0 from by show ¬ (3 : Int32) = 0; decide)], hm, hs, hi, rfl⟩
theorem o_intr (hm : MemOk nW W (mmemory F)) (hs : SntOk B (msent F) (msentMany F)) (hi : MInv mo F) {p' : Int32} (hp : p' &&& 3 = 0) : ResOk nW mo (mretired F) lat ((2 : Int32), kplace_ (f_X0_enter nW nB (kwaiting_ (mkK F W B lat (mretired F)) false) (mpc F) (-2147483641 : Int32) (0 : Int32)).2 p') ((2 : Int32), mwaits_ (mpc_ (f_X5_trap sz mo F (-2147483641 : Int32) (0 : Int32)).2 p') false) := by
  have e : kplace_ (f_X0_enter nW nB (kwaiting_ (mkK F W B lat (mretired F)) false) (mpc F) (-2147483641 : Int32) (0 : Int32)).2 p' = mkK (mwaits_ (mpc_ (f_X5_trap sz mo F (-2147483641 : Int32) (0 : Int32)).2 p') false) W B lat (mretired F) := by
    rcases F with ⟨x, pc, mie, mpie, mieBits, mtvec, mscratch, mepc, mcause, mtval, time, limit, sent, sentMany, retired, waits, latest, word, d, f, s, t, g, next, mem⟩
    rfl
  rw [e]
  rcases F with ⟨x, pc, mie, mpie, mieBits, mtvec, mscratch, mepc, mcause, mtval, time, limit, sent, sentMany, retired, waits, latest, word, d, f, s, t, g, next, mem⟩
  exact ⟨rfl, W, B, by rw [if_neg (show ¬ (2 : Int32) = 0 from by decide)], hm, hs, ⟨hi.1, hp, hi.2.1, hi.2.2.2⟩, rfl⟩
theorem or1 (x : Int32) : (x &&& 1) = 0 ∨ (x &&& 1) = 1 := by
  obtain ⟨j, hj, e⟩ := pk_andE x (m := 1) 1 (by decide)
  rw [e]
  rcases (show j = 0 ∨ j = 1 by omega) with rfl | rfl
  · exact Or.inl rfl
  · exact Or.inr rfl
theorem csr836 (sz mo : Int32) (F : MS) : f_X5_csr sz mo F (836 : Int32) = if (b2i (f_X5_isDue sz mo F)) = 0 then (0 : Int32) else (128 : Int32) := by
  unfold f_X5_csr
  rw [if_neg (by decide), if_neg (by decide), if_neg (by decide), if_neg (by decide), if_neg (by decide), if_neg (by decide), if_neg (by decide), if_neg (by decide), if_pos rfl]
theorem o_once (hc : Cst nW nB sz mo) (hm : MemOk nW W (mmemory F)) (hs : SntOk B (msent F) (msentMany F)) (hi : MInv mo F) : ResOk nW mo (mretired F) lat (f_X4_stepOnce nW nB (mkK F W B lat (mretired F))) (f_X5_once sz mo F) := by
  have ins := o_ins (lat := lat) (B := B) hc hm hs hi
  have wt := o_wait (lat := lat) hm hs hi
  unfold f_X4_stepOnce f_X5_once
  rw [csr836, due_eq nW nB sz mo]
  unfold f_X0_timerEnabled
  show ResOk nW mo (mretired F) lat (if (b2i (if ((mmieBits F) &&& (128 : Int32)) = 0 then false else true)) = 0 then _ else _) _
  by_cases cd : (b2i (f_X5_isDue sz mo F)) = 0
  · -- not due: no interrupt, nothing wakes
    have e0 : ((if b2i (f_X5_isDue sz mo F) = 0 then (0 : Int32) else (128 : Int32)) &&& mmieBits F) = 0 := by rw [if_pos cd, Int32.zero_and]
    rw [e0, Int32.zero_and]
    simp only [if_true]
    by_cases ce : ((mmieBits F) &&& (128 : Int32)) = 0
    · rw [if_pos ce, if_pos (show b2i false = 0 from rfl)]
      by_cases cw : (b2i (mwaits F)) = 0
      · rw [if_pos cw, if_pos (show (b2i (kwaiting (mkK F W B lat (mretired F)))) = 0 from cw)]
        exact ins
      · rw [if_neg cw, if_neg (show ¬ (b2i (kwaiting (mkK F W B lat (mretired F)))) = 0 from cw)]
        exact wt
    · rw [if_neg ce, if_neg (show ¬ b2i true = 0 by decide), if_pos cd]
      by_cases cw : (b2i (mwaits F)) = 0
      · rw [if_pos cw, if_pos (show (b2i (kwaiting (mkK F W B lat (mretired F)))) = 0 from cw)]
        exact ins
      · rw [if_neg cw, if_neg (show ¬ (b2i (kwaiting (mkK F W B lat (mretired F)))) = 0 from cw)]
        exact wt
  · have ex : (if b2i (f_X5_isDue sz mo F) = 0 then (0 : Int32) else (128 : Int32)) = 128 := if_neg cd
    rw [ex]
    have ec : ((128 : Int32) &&& mmieBits F) = (mmieBits F &&& (128 : Int32)) := Int32.and_comm ..
    have ec2 : (((128 : Int32) &&& mmieBits F) &&& (128 : Int32)) = (mmieBits F &&& (128 : Int32)) := by rw [ec, Int32.and_assoc, Int32.and_self]
    rw [ec2, ec]
    by_cases ce : ((mmieBits F) &&& (128 : Int32)) = 0
    · simp only [if_pos ce]
      rw [if_pos (show b2i false = 0 from rfl)]
      by_cases cw : (b2i (mwaits F)) = 0
      · rw [if_pos cw, if_pos (show (b2i (kwaiting (mkK F W B lat (mretired F)))) = 0 from cw)]
        exact ins
      · rw [if_neg cw, if_neg (show ¬ (b2i (kwaiting (mkK F W B lat (mretired F)))) = 0 from cw)]
        exact wt
    · simp only [if_neg ce]
      rw [if_neg (show ¬ b2i true = 0 by decide), if_neg cd]
      by_cases co : (b2i (mmie F)) = 0
      · rw [if_pos co, if_pos (show (b2i (kon (mkK F W B lat (mretired F)))) = 0 from co)]
        by_cases cw : (b2i (mwaits F)) = 0
        · rw [if_pos cw, if_pos (show (b2i (kwaiting (mkK F W B lat (mretired F)))) = 0 from cw)]
          exact ins
        · rw [if_neg cw, if_neg (show ¬ (b2i (kwaiting (mkK F W B lat (mretired F)))) = 0 from cw)]
          exact ins
      · rw [if_neg co, if_neg (show ¬ (b2i (kon (mkK F W B lat (mretired F)))) = 0 from co), kpl_setD]
        have ev : mmtvec (f_X5_trap sz mo F (-2147483641 : Int32) (0 : Int32)).2 = mmtvec F := by
          rcases F with ⟨x, pc, mie, mpie, mieBits, mtvec, mscratch, mepc, mcause, mtval, time, limit, sent, sentMany, retired, waits, latest, word, d, f, s, t, g, next, mem⟩
          rfl
        have ep : mpc (f_X5_trap sz mo F (-2147483641 : Int32) (0 : Int32)).2 = mmtvec F &&& (-4 : Int32) := by
          rcases F with ⟨x, pc, mie, mpie, mieBits, mtvec, mscratch, mepc, mcause, mtval, time, limit, sent, sentMany, retired, waits, latest, word, d, f, s, t, g, next, mem⟩
          rfl
        have eh : f_X0_hasOwnEntries nW nB (f_X0_enter nW nB (kwaiting_ (mkK F W B lat (mretired F)) false) (mpc F) (-2147483641 : Int32) (0 : Int32)).2 = (if ((mmtvec F) &&& (1 : Int32)) = 0 then false else true) := by
          rcases F with ⟨x, pc, mie, mpie, mieBits, mtvec, mscratch, mepc, mcause, mtval, time, limit, sent, sentMany, retired, waits, latest, word, d, f, s, t, g, next, mem⟩
          rfl
        have e1 : (f_X0_enter nW nB (kwaiting_ (mkK F W B lat (mretired F)) false) (mpc F) (-2147483641 : Int32) (0 : Int32)).1 = mmtvec F &&& (-4 : Int32) := by
          rcases F with ⟨x, pc, mie, mpie, mieBits, mtvec, mscratch, mepc, mcause, mtval, time, limit, sent, sentMany, retired, waits, latest, word, d, f, s, t, g, next, mem⟩
          rfl
        rw [ev, ep, eh, e1, if_pos (show (f_X5_trap sz mo F (-2147483641 : Int32) (0 : Int32)).1 = (1 : Int32) from rfl), if_pos (show (f_X5_trap sz mo F (-2147483641 : Int32) (0 : Int32)).1 = (1 : Int32) from rfl)]
        rcases or1 (mmtvec F) with h | h
        · rw [if_pos h, if_pos (show b2i false = 0 from rfl), if_neg (show ¬ (mmtvec F &&& 1) = 1 by rw [h]; decide)]
          exact o_intr hm hs hi (alm4 _)
        · rw [if_neg (show ¬ (mmtvec F &&& 1) = 0 by rw [h]; decide), if_neg (show ¬ b2i true = 0 by decide), if_pos h]
          exact o_intr hm hs hi (al28 (alm4 _))
theorem lat_mk1 (F : MS) (W B : Nat → Int32) (lat r : Int32) (t : Int64) : klatest_ (mkK F W B lat t) r = mkK F W B r t := rfl
theorem mk_latest (F : MS) (v : Int32) (W B : Nat → Int32) (lat : Int32) (ret : Int64) : mkK (mlatest_ F v) W B lat ret = mkK F W B lat ret := rfl
theorem mk_retired (F : MS) (v : Int64) (W B : Nat → Int32) (lat : Int32) (ret : Int64) : mkK (mretired_ F v) W B lat ret = mkK F W B lat ret := rfl
theorem gl1 (F : MS) (r : Int32) : mmemory (mlatest_ F r) = mmemory F ∧ msent (mlatest_ F r) = msent F ∧ msentMany (mlatest_ F r) = msentMany F ∧ mx (mlatest_ F r) = mx F ∧ mpc (mlatest_ F r) = mpc F ∧ mmepc (mlatest_ F r) = mmepc F := ⟨rfl, rfl, rfl, rfl, rfl, rfl⟩
theorem gr1 (F : MS) (t : Int64) : mmemory (mretired_ F t) = mmemory F ∧ msent (mretired_ F t) = msent F ∧ msentMany (mretired_ F t) = msentMany F ∧ mx (mretired_ F t) = mx F ∧ mpc (mretired_ F t) = mpc F ∧ mmepc (mretired_ F t) = mmepc F := ⟨rfl, rfl, rfl, rfl, rfl, rfl⟩
theorem gl2 (F : MS) (r : Int32) (t : Int64) : mlatest (mretired_ (mlatest_ F r) t) = r := rfl
theorem gr2 (F : MS) (t : Int64) : mretired (mretired_ F t) = t := rfl
theorem rel_lr {nW nB : Nat} {sz mo : Int32} {F : MS} {W B : Nat → Int32} {lat r : Int32} {t : Int64} (hc : Cst nW nB sz mo) (h1 : MemOk nW W (mmemory F)) (h2 : SntOk B (msent F) (msentMany F)) (h3 : MInv mo F) : Rel nW nB sz mo (klatest_ (mkK F W B lat t) r) (mretired_ (mlatest_ F r) t) := by
  obtain ⟨a1, a2, a3, a4, a5, a6⟩ := gl1 F r
  obtain ⟨b1, b2, b3, b4, b5, b6⟩ := gr1 (mlatest_ F r) t
  refine ⟨hc, W, B, ?_, ?_, ?_, ?_, ?_, ?_, ?_⟩
  · rw [lat_mk1, mk_retired, mk_latest, gl2, gr2]
  · rw [b1, a1]; exact h1
  · rw [b2, a2, b3, a3]; exact h2
  · rw [b4, a4]; exact h3.1
  · rw [b5, a5]; exact h3.2.1
  · rw [b6, a6]; exact h3.2.2.1
  · show 0 ≤ (msentMany (mretired_ (mlatest_ F r) t)).toInt ∧ (msentMany (mretired_ (mlatest_ F r) t)).toInt ≤ mo.toInt
    rw [b3, a3]
    exact h3.2.2.2
end STEP
theorem rel_step {nW nB : Nat} {sz mo : Int32} {E : KS} {F : MS} (h : Rel nW nB sz mo E F) : (f_X4_step nW nB E).1 = (f_X5_step sz mo F).1 ∧ Rel nW nB sz mo (f_X4_step nW nB E).2 (f_X5_step sz mo F).2 := by
  obtain ⟨hc, W, B, rfl, hm, hs, hi⟩ := h
  have q := o_once (lat := mlatest F) hc hm hs hi
  unfold f_X4_step f_X5_step
  generalize f_X4_stepOnce nW nB (mkK F W B (mlatest F) (mretired F)) = k at q ⊢
  generalize f_X5_once sz mo F = m at q ⊢
  obtain ⟨k1, k2⟩ := k
  obtain ⟨m1, m2⟩ := m
  obtain ⟨e1, W', B', e2, h1, h2, h3, h4⟩ := q
  dsimp only at e1 e2 h1 h2 h3 h4 ⊢
  subst e1
  rw [e2]
  by_cases c : k1 = 0
  · rw [if_pos c, if_pos c, h4]
    exact ⟨rfl, rel_lr hc h1 h2 h3⟩
  · rw [if_neg c, if_neg c, h4]
    exact ⟨rfl, rel_lr hc h1 h2 h3⟩
