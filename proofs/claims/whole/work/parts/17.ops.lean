/-! one instruction: class and reference come to the same -/
def fin (w : Int32 × MS) : Int32 × MS := if w.1 = (-1 : Int32) then ((0 : Int32), mpc_ w.2 (mnext w.2)) else w
def ResOk (nW : Nat) (mo : Int32) (ret : Int64) (lat : Int32) (k : Int32 × KS) (w : Int32 × MS) : Prop := k.1 = w.1 ∧ ∃ W B : Nat → Int32, k.2 = mkK w.2 W B lat (if w.1 = 0 then ret + 1 else ret) ∧ MemOk nW W (mmemory w.2) ∧ SntOk B (msent w.2) (msentMany w.2) ∧ MInv mo w.2 ∧ mretired w.2 = ret
abbrev Dec (w : Int32) (F : MS) : Prop := mword F = w ∧ md F = ((w >>> ((7 : Int32) &&& 31)) &&& (31 : Int32)) ∧ mf F = ((w >>> ((12 : Int32) &&& 31)) &&& (7 : Int32)) ∧ ms F = ((w >>> ((15 : Int32) &&& 31)) &&& (31 : Int32)) ∧ mt F = ((w >>> ((20 : Int32) &&& 31)) &&& (31 : Int32)) ∧ mg F = ((w >>> ((25 : Int32) &&& 31)) &&& (127 : Int32)) ∧ mnext F = mpc F + (4 : Int32)
section OPS
variable {nW nB : Nat} {sz mo : Int32} {F : MS} {W B : Nat → Int32} {lat w : Int32}
theorem fin_trap (sz mo : Int32) (F : MS) (c v : Int32) : fin (f_X5_trap sz mo F c v) = f_X5_trap sz mo F c v := by
  unfold fin
  rw [if_neg (show ¬ (f_X5_trap sz mo F c v).1 = (-1 : Int32) from by show ¬ (1 : Int32) = -1; decide)]
theorem trap_eq (nW nB : Nat) (sz mo : Int32) (F : MS) (W B : Nat → Int32) (lat : Int32) (ret : Int64) (c v : Int32) : f_X4_trap nW nB (mkK F W B lat ret) c v = ((1 : Int32), mkK (f_X5_trap sz mo F c v).2 W B lat ret) := by
  rcases F with ⟨x, pc, mie, mpie, mieBits, mtvec, mscratch, mepc, mcause, mtval, time, limit, sent, sentMany, retired, waits, latest, word, d, f, s, t, g, next, mem⟩
  rfl
theorem o_trap (hm : MemOk nW W (mmemory F)) (hs : SntOk B (msent F) (msentMany F)) (hi : MInv mo F) (c v : Int32) : ResOk nW mo (mretired F) lat (f_X4_trap nW nB (mkK F W B lat (mretired F)) c v) (fin (f_X5_trap sz mo F c v)) := by
  rw [fin_trap, trap_eq nW nB sz mo]
  refine ⟨rfl, W, B, ?_, ?_, ?_, ?_, ?_⟩
  · rw [if_neg (show ¬ (f_X5_trap sz mo F c v).1 = 0 from by show ¬ (1 : Int32) = 0; decide)]
  · rcases F with ⟨x, pc, mie, mpie, mieBits, mtvec, mscratch, mepc, mcause, mtval, time, limit, sent, sentMany, retired, waits, latest, word, d, f, s, t, g, next, mem⟩
    exact hm
  · rcases F with ⟨x, pc, mie, mpie, mieBits, mtvec, mscratch, mepc, mcause, mtval, time, limit, sent, sentMany, retired, waits, latest, word, d, f, s, t, g, next, mem⟩
    exact hs
  · rcases F with ⟨x, pc, mie, mpie, mieBits, mtvec, mscratch, mepc, mcause, mtval, time, limit, sent, sentMany, retired, waits, latest, word, d, f, s, t, g, next, mem⟩
    exact ⟨hi.1, alm4 mtvec, hi.2.1, hi.2.2.2⟩
  · rcases F with ⟨x, pc, mie, mpie, mieBits, mtvec, mscratch, mepc, mcause, mtval, time, limit, sent, sentMany, retired, waits, latest, word, d, f, s, t, g, next, mem⟩
    rfl
theorem o_ill (hm : MemOk nW W (mmemory F)) (hs : SntOk B (msent F) (msentMany F)) (hi : MInv mo F) (hd : mword F = w) : ResOk nW mo (mretired F) lat (f_X4_illegal nW nB (mkK F W B lat (mretired F)) w) (fin (f_X5_illegal sz mo F)) := by
  subst hd
  exact o_trap hm hs hi (2 : Int32) (mword F)
theorem rat_eq (nW nB : Nat) (F : MS) (W B : Nat → Int32) (lat : Int32) (ret : Int64) (nx : Int32) : f_X4_retireAt nW nB (mkK F W B lat ret) nx = ((0 : Int32), mkK (mpc_ F nx) W B lat (ret + 1)) := by
  rcases F with ⟨x, pc, mie, mpie, mieBits, mtvec, mscratch, mepc, mcause, mtval, time, limit, sent, sentMany, retired, waits, latest, word, d, f, s, t, g, next, mem⟩
  rfl
theorem fin_go (F : MS) : fin ((-1 : Int32), F) = ((0 : Int32), mpc_ F (mnext F)) := by
  unfold fin
  rw [if_pos rfl]
/-- it goes on at nx -/
theorem o_at (hm : MemOk nW W (mmemory F)) (hs : SntOk B (msent F) (msentMany F)) (hi : MInv mo F) {nx : Int32} (hn : mnext F = nx) (ha : nx &&& 3 = 0) : ResOk nW mo (mretired F) lat (f_X4_retireAt nW nB (mkK F W B lat (mretired F)) nx) (fin ((-1 : Int32), F)) := by
  subst hn
  rw [fin_go, rat_eq]
  exact ⟨rfl, W, B, by rw [if_pos rfl], hm, hs, ⟨hi.1, ha, hi.2.2.1, hi.2.2.2⟩, rfl⟩
theorem md_in {w : Int32} : vp_in ((w >>> ((7 : Int32) &&& 31)) &&& (31 : Int32)) 32 := pk_andIn _ 5 rfl (by decide)
theorem upd00 (x : Nat → Int32) (h : x 0 = 0) : upd x 0 0 = x := by
  funext j
  unfold upd
  by_cases hj : j = 0
  · subst hj; simp [h]
  · simp [hj]
theorem bec_1 (sz mo : Int32) (F : MS) (v : Int32) : (f_X5_become sz mo F v).1 = -1 := by
  unfold f_X5_become
  by_cases h : md F = 0
  · rw [if_pos h]
  · rw [if_neg h]
theorem bec_2 (sz mo : Int32) (F : MS) (v : Int32) : ∃ x' : Nat → Int32, (f_X5_become sz mo F v).2 = mx_ F x' := by
  unfold f_X5_become
  by_cases h : md F = 0
  · rw [if_pos h]; exact ⟨_, rfl⟩
  · rw [if_neg h]; exact ⟨_, rfl⟩
theorem bec_0 (sz mo : Int32) (F : MS) (v : Int32) (h0 : mx F 0 = 0) (hd : vp_in (md F) 32) : mx (f_X5_become sz mo F v).2 0 = 0 := by
  unfold f_X5_become
  by_cases h : md F = 0
  · rw [if_pos h]
    show upd (mx F) (md F).toNatClampNeg 0 0 = 0
    rw [h, show (0 : Int32).toNatClampNeg = 0 from rfl, pk_us]
  · rw [if_neg h]
    show upd (mx F) (md F).toNatClampNeg v 0 = 0
    obtain ⟨j, hj, e⟩ := vp_in_of hd (by decide)
    rw [e, nI_clamp (by omega)]
    have : j ≠ 0 := fun q => h (by rw [e, q]; rfl)
    rw [pk_un (by omega), h0]
theorem setD_eq (nW nB : Nat) (sz mo : Int32) (F : MS) (W B : Nat → Int32) (lat : Int32) (ret : Int64) (w v : Int32) (h0 : mx F 0 = 0) (hd : md F = ((w >>> ((7 : Int32) &&& 31)) &&& (31 : Int32))) : f_X4_setD nW nB (mkK F W B lat ret) w v = mkK (f_X5_become sz mo F v).2 W B lat ret := by
  unfold f_X4_setD f_X5_become
  rw [sh_7, ← hd]
  by_cases h : md F = 0
  · rw [if_pos h, if_pos h]
    show mkK F W B lat ret = mkK (mx_ F (upd (mx F) (md F).toNatClampNeg 0)) W B lat ret
    rw [h, show (0 : Int32).toNatClampNeg = 0 from rfl, upd00 _ h0]
    rfl
  · rw [if_neg h, if_neg h]
    rfl
theorem kpl_setD (F : MS) (W B : Nat → Int32) (lat : Int32) (ret : Int64) : kplace (mkK F W B lat ret) = mpc F := rfl
/-- v comes to x[d], and it goes on at nx -/
theorem o_bec (hm : MemOk nW W (mmemory F)) (hs : SntOk B (msent F) (msentMany F)) (hi : MInv mo F) (hd : md F = ((w >>> ((7 : Int32) &&& 31)) &&& (31 : Int32))) (v : Int32) {nx : Int32} (ha : nx &&& 3 = 0) : ResOk nW mo (mretired F) lat (f_X4_retireAt nW nB (f_X4_setD nW nB (mkK F W B lat (mretired F)) w v) nx) (fin ((f_X5_become sz mo F v).1, mnext_ (f_X5_become sz mo F v).2 nx)) := by
  rw [setD_eq nW nB sz mo F W B lat _ w v hi.1 hd, bec_1]
  have h0 := bec_0 sz mo F v hi.1 (by rw [hd]; exact md_in)
  obtain ⟨x', e⟩ := bec_2 sz mo F v
  rw [e] at h0 ⊢
  exact o_at (F := mnext_ (mx_ F x') nx) hm hs ⟨h0, hi.2.1, hi.2.2.1, hi.2.2.2⟩ rfl ha
theorem o_ret (hm : MemOk nW W (mmemory F)) (hs : SntOk B (msent F) (msentMany F)) (hi : MInv mo F) (hd : md F = ((w >>> ((7 : Int32) &&& 31)) &&& (31 : Int32))) (hn : mnext F = mpc F + (4 : Int32)) (v : Int32) : ResOk nW mo (mretired F) lat (f_X4_retire nW nB (mkK F W B lat (mretired F)) w v) (fin (f_X5_become sz mo F v)) := by
  unfold f_X4_retire
  rw [setD_eq nW nB sz mo F W B lat _ w v hi.1 hd]
  have h0 := bec_0 sz mo F v hi.1 (by rw [hd]; exact md_in)
  have h1 := bec_1 sz mo F v
  obtain ⟨x', e⟩ := bec_2 sz mo F v
  generalize f_X5_become sz mo F v = R at h0 h1 e ⊢
  obtain ⟨r1, r2⟩ := R
  dsimp only at h0 h1 e ⊢
  subst h1 e
  exact o_at (F := mx_ F x') hm hs ⟨h0, hi.2.1, hi.2.2.1, hi.2.2.2⟩ hn (al4 hi.2.1)
theorem o_next (hm : MemOk nW W (mmemory F)) (hs : SntOk B (msent F) (msentMany F)) (hi : MInv mo F) (hn : mnext F = mpc F + (4 : Int32)) : ResOk nW mo (mretired F) lat (f_X4_retireAt nW nB (mkK F W B lat (mretired F)) (mpc F + (4 : Int32))) (fin ((-1 : Int32), F)) := o_at hm hs hi hn (al4 hi.2.1)
theorem o_jump (hm : MemOk nW W (mmemory F)) (hs : SntOk B (msent F) (msentMany F)) (hi : MInv mo F) (hd : md F = ((w >>> ((7 : Int32) &&& 31)) &&& (31 : Int32))) (a : Int32) : ResOk nW mo (mretired F) lat (f_X4_jump nW nB (mkK F W B lat (mretired F)) w a) (fin (f_X5_goTo sz mo F a true)) := by
  unfold f_X4_jump f_X5_goTo
  by_cases h : (a &&& (3 : Int32)) = 0
  · rw [if_pos h, if_pos h, if_neg (show ¬ (b2i true) = 0 from by decide)]
    exact o_bec hm hs hi hd _ h
  · rw [if_neg h, if_neg h]
    exact o_trap hm hs hi (0 : Int32) a
/-- a branch that is taken -/
theorem o_goto (hm : MemOk nW W (mmemory F)) (hs : SntOk B (msent F) (msentMany F)) (hi : MInv mo F) (a : Int32) : ResOk nW mo (mretired F) lat (if (a &&& (3 : Int32)) = 0 then f_X4_retireAt nW nB (mkK F W B lat (mretired F)) a else f_X4_trap nW nB (mkK F W B lat (mretired F)) (0 : Int32) a) (fin (f_X5_goTo sz mo F a false)) := by
  unfold f_X5_goTo
  by_cases h : (a &&& (3 : Int32)) = 0
  · rw [if_pos h, if_pos h, if_pos (show (b2i false) = 0 from by decide)]
    exact o_at (F := mnext_ F a) hm hs hi rfl h
  · rw [if_neg h, if_neg h]
    exact o_trap hm hs hi (0 : Int32) a
/-- one that isn't -/
theorem o_stay (hm : MemOk nW W (mmemory F)) (hs : SntOk B (msent F) (msentMany F)) (hi : MInv mo F) (hn : mnext F = mpc F + (4 : Int32)) : ResOk nW mo (mretired F) lat (if ((mpc F + (4 : Int32)) &&& (3 : Int32)) = 0 then f_X4_retireAt nW nB (mkK F W B lat (mretired F)) (mpc F + (4 : Int32)) else f_X4_trap nW nB (mkK F W B lat (mretired F)) (0 : Int32) (mpc F + (4 : Int32))) (fin ((-1 : Int32), F)) := by
  rw [if_pos (al4 hi.2.1)]
  exact o_next hm hs hi hn
theorem f_eq {w : Int32} {F : MS} (h : mf F = ((w >>> ((12 : Int32) &&& 31)) &&& (7 : Int32))) : f_X4_f w = mf F := by
  unfold f_X4_f
  rw [sh_12, h]
theorem s_eq {w : Int32} {F : MS} (h : ms F = ((w >>> ((15 : Int32) &&& 31)) &&& (31 : Int32))) : f_X4_s w = ms F := by
  unfold f_X4_s
  rw [sh_15, h]
theorem g_eq {w : Int32} {F : MS} (h : mg F = ((w >>> ((25 : Int32) &&& 31)) &&& (127 : Int32))) : f_X4_g w = mg F := by
  unfold f_X4_g
  rw [sh_25, h]
theorem a_eq (nW nB : Nat) {w : Int32} {F : MS} (W B : Nat → Int32) (lat : Int32) (ret : Int64) (h : ms F = ((w >>> ((15 : Int32) &&& 31)) &&& (31 : Int32))) : f_X4_a nW nB (mkK F W B lat ret) w = mx F (ms F).toNatClampNeg := by
  unfold f_X4_a
  rw [s_eq h]
  rfl
theorem b_eq (nW nB : Nat) {w : Int32} {F : MS} (W B : Nat → Int32) (lat : Int32) (ret : Int64) (h : mt F = ((w >>> ((20 : Int32) &&& 31)) &&& (31 : Int32))) : f_X4_b nW nB (mkK F W B lat ret) w = mx F (mt F).toNatClampNeg := by
  unfold f_X4_b
  rw [sh_20, h]
  rfl
theorem f_in {w : Int32} : vp_in ((w >>> ((12 : Int32) &&& 31)) &&& (7 : Int32)) 8 := pk_andIn _ 3 rfl (by decide)
theorem offB (w : Int32) : f_X4_offsetB w = (((((w >>> ((31 : Int32) &&& 31)) <<< ((12 : Int32) &&& 31)) ||| (((w >>> ((7 : Int32) &&& 31)) &&& (1 : Int32)) <<< ((11 : Int32) &&& 31))) ||| (((w >>> ((25 : Int32) &&& 31)) &&& (63 : Int32)) <<< ((5 : Int32) &&& 31))) ||| (((w >>> ((8 : Int32) &&& 31)) &&& (15 : Int32)) <<< ((1 : Int32) &&& 31))) := by
  unfold f_X4_offsetB
  rw [sh_7b, sh_25b, sh_8b]
theorem offJ (w : Int32) : f_X4_offsetJ w = (((((w >>> ((31 : Int32) &&& 31)) <<< ((20 : Int32) &&& 31)) ||| (w &&& (1044480 : Int32))) ||| (((w >>> ((20 : Int32) &&& 31)) &&& (1 : Int32)) <<< ((11 : Int32) &&& 31))) ||| (((w >>> ((21 : Int32) &&& 31)) &&& (1023 : Int32)) <<< ((1 : Int32) &&& 31))) := by
  unfold f_X4_offsetJ
  rw [sh_20j, sh_21j]
theorem o_branch (hm : MemOk nW W (mmemory F)) (hs : SntOk B (msent F) (msentMany F)) (hi : MInv mo F) (hd : Dec w F) : ResOk nW mo (mretired F) lat (f_X4_branch nW nB (mkK F W B lat (mretired F)) w) (fin (f_X5_branch sz mo F)) := by
  obtain ⟨hw, hdd, hf, hss, ht, hg, hn⟩ := hd
  have hfi : vp_in (mf F) 8 := by rw [hf]; exact f_in
  have il := o_ill (nB := nB) (sz := sz) (lat := lat) hm hs hi hw
  have st := o_stay (nB := nB) (lat := lat) hm hs hi hn
  unfold f_X4_branch f_X5_branch
  rw [f_eq hf, a_eq nW nB W B lat _ hss, b_eq nW nB W B lat _ ht, kpl_setD, offB, hw]
  have go := o_goto (nB := nB) (sz := sz) (lat := lat) hm hs hi (mpc F + (((((w >>> ((31 : Int32) &&& 31)) <<< ((12 : Int32) &&& 31)) ||| (((w >>> ((7 : Int32) &&& 31)) &&& (1 : Int32)) <<< ((11 : Int32) &&& 31))) ||| (((w >>> ((25 : Int32) &&& 31)) &&& (63 : Int32)) <<< ((5 : Int32) &&& 31))) ||| (((w >>> ((8 : Int32) &&& 31)) &&& (15 : Int32)) <<< ((1 : Int32) &&& 31))))
  generalize (((((w >>> ((31 : Int32) &&& 31)) <<< ((12 : Int32) &&& 31)) ||| (((w >>> ((7 : Int32) &&& 31)) &&& (1 : Int32)) <<< ((11 : Int32) &&& 31))) ||| (((w >>> ((25 : Int32) &&& 31)) &&& (63 : Int32)) <<< ((5 : Int32) &&& 31))) ||| (((w >>> ((8 : Int32) &&& 31)) &&& (15 : Int32)) <<< ((1 : Int32) &&& 31))) = off at go ⊢
  generalize mx F (ms F).toNatClampNeg = a
  generalize mx F (mt F).toNatClampNeg = b
  unfold f_X4_compares
  rw [below_eq]
  obtain ⟨j, hj, e⟩ := vp_in_of hfi (by decide)
  rw [e]
  rcases (show j = 0 ∨ j = 1 ∨ j = 2 ∨ j = 3 ∨ j = 4 ∨ j = 5 ∨ j = 6 ∨ j = 7 by omega) with rfl | rfl | rfl | rfl | rfl | rfl | rfl | rfl
  · rw [if_neg (show ¬ nI 0 = (2 : Int32) by decide), if_neg (show ¬ nI 0 = (3 : Int32) by decide), if_neg (show ¬ (nI 0 &&& (1 : Int32)) = (1 : Int32) by decide), if_pos (show (nI 0 &&& (6 : Int32)) = (0 : Int32) by decide), if_pos (show nI 0 = (0 : Int32) by decide)]
    by_cases c : a = b
    · rw [if_pos c, if_pos c, if_neg (show ¬ b2i true = 0 by decide)]
      exact go
    · rw [if_neg c, if_neg c, if_pos (show b2i false = 0 by decide)]
      exact st
  · rw [if_neg (show ¬ nI 1 = (2 : Int32) by decide), if_neg (show ¬ nI 1 = (3 : Int32) by decide), if_pos (show (nI 1 &&& (1 : Int32)) = (1 : Int32) by decide), if_pos (show (nI 1 &&& (6 : Int32)) = (0 : Int32) by decide), if_neg (show ¬ nI 1 = (0 : Int32) by decide), if_pos (show nI 1 = (1 : Int32) by decide)]
    by_cases c : a = b
    · rw [if_pos c, if_pos c, if_pos (show b2i true = 1 by decide)]
      exact st
    · rw [if_neg c, if_neg c, if_neg (show ¬ b2i false = 1 by decide)]
      exact go
  · rw [if_pos (show nI 2 = (2 : Int32) by decide), if_neg (show ¬ nI 2 = (0 : Int32) by decide), if_neg (show ¬ nI 2 = (1 : Int32) by decide), if_pos (show nI 2 = (2 : Int32) by decide)]
    exact il
  · rw [if_neg (show ¬ nI 3 = (2 : Int32) by decide), if_pos (show nI 3 = (3 : Int32) by decide), if_neg (show ¬ nI 3 = (0 : Int32) by decide), if_neg (show ¬ nI 3 = (1 : Int32) by decide), if_neg (show ¬ nI 3 = (2 : Int32) by decide), if_pos (show nI 3 = (3 : Int32) by decide)]
    exact il
  · rw [if_neg (show ¬ nI 4 = (2 : Int32) by decide), if_neg (show ¬ nI 4 = (3 : Int32) by decide), if_neg (show ¬ (nI 4 &&& (1 : Int32)) = (1 : Int32) by decide), if_neg (show ¬ (nI 4 &&& (6 : Int32)) = (0 : Int32) by decide), if_pos (show (nI 4 &&& (6 : Int32)) = (4 : Int32) by decide), if_neg (show ¬ nI 4 = (0 : Int32) by decide), if_neg (show ¬ nI 4 = (1 : Int32) by decide), if_neg (show ¬ nI 4 = (2 : Int32) by decide), if_neg (show ¬ nI 4 = (3 : Int32) by decide), if_pos (show nI 4 = (4 : Int32) by decide)]
    by_cases c : b ≤ a
    · rw [if_pos c, if_pos c, if_pos (show b2i false = 0 by decide)]
      exact st
    · rw [if_neg c, if_neg c, if_neg (show ¬ b2i true = 0 by decide)]
      exact go
  · rw [if_neg (show ¬ nI 5 = (2 : Int32) by decide), if_neg (show ¬ nI 5 = (3 : Int32) by decide), if_pos (show (nI 5 &&& (1 : Int32)) = (1 : Int32) by decide), if_neg (show ¬ (nI 5 &&& (6 : Int32)) = (0 : Int32) by decide), if_pos (show (nI 5 &&& (6 : Int32)) = (4 : Int32) by decide), if_neg (show ¬ nI 5 = (0 : Int32) by decide), if_neg (show ¬ nI 5 = (1 : Int32) by decide), if_neg (show ¬ nI 5 = (2 : Int32) by decide), if_neg (show ¬ nI 5 = (3 : Int32) by decide), if_neg (show ¬ nI 5 = (4 : Int32) by decide), if_pos (show nI 5 = (5 : Int32) by decide)]
    have hl : a < b ↔ ¬ b ≤ a := by
      rw [Int32.lt_iff_toInt_lt, Int32.le_iff_toInt_le]
      omega
    by_cases c : b ≤ a
    · rw [if_pos c, if_neg (fun q => hl.mp q c), if_neg (show ¬ b2i false = 1 by decide)]
      exact go
    · rw [if_neg c, if_pos (hl.mpr c), if_pos (show b2i true = 1 by decide)]
      exact st
  · rw [if_neg (show ¬ nI 6 = (2 : Int32) by decide), if_neg (show ¬ nI 6 = (3 : Int32) by decide), if_neg (show ¬ (nI 6 &&& (1 : Int32)) = (1 : Int32) by decide), if_neg (show ¬ (nI 6 &&& (6 : Int32)) = (0 : Int32) by decide), if_neg (show ¬ (nI 6 &&& (6 : Int32)) = (4 : Int32) by decide), if_neg (show ¬ nI 6 = (0 : Int32) by decide), if_neg (show ¬ nI 6 = (1 : Int32) by decide), if_neg (show ¬ nI 6 = (2 : Int32) by decide), if_neg (show ¬ nI 6 = (3 : Int32) by decide), if_neg (show ¬ nI 6 = (4 : Int32) by decide), if_neg (show ¬ nI 6 = (5 : Int32) by decide), if_pos (show nI 6 = (6 : Int32) by decide)]
    by_cases c : (b2i (f_X5_isBelow a b)) = 0
    · rw [if_pos c, if_pos c]
      exact st
    · rw [if_neg c, if_neg c]
      exact go
  · rw [if_neg (show ¬ nI 7 = (2 : Int32) by decide), if_neg (show ¬ nI 7 = (3 : Int32) by decide), if_pos (show (nI 7 &&& (1 : Int32)) = (1 : Int32) by decide), if_neg (show ¬ (nI 7 &&& (6 : Int32)) = (0 : Int32) by decide), if_neg (show ¬ (nI 7 &&& (6 : Int32)) = (4 : Int32) by decide), if_neg (show ¬ nI 7 = (0 : Int32) by decide), if_neg (show ¬ nI 7 = (1 : Int32) by decide), if_neg (show ¬ nI 7 = (2 : Int32) by decide), if_neg (show ¬ nI 7 = (3 : Int32) by decide), if_neg (show ¬ nI 7 = (4 : Int32) by decide), if_neg (show ¬ nI 7 = (5 : Int32) by decide), if_neg (show ¬ nI 7 = (6 : Int32) by decide), if_pos (show nI 7 = (7 : Int32) by decide)]
    by_cases c : f_X5_isBelow a b = false
    · rw [c, if_neg (show ¬ b2i false = 1 by decide), if_pos (show b2i false = 0 by decide)]
      exact go
    · rw [show f_X5_isBelow a b = true by simpa using c, if_pos (show b2i true = 1 by decide), if_neg (show ¬ b2i true = 0 by decide)]
      exact st
end OPS
