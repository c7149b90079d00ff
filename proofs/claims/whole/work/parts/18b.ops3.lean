/-! reading and storing -/
section OPS3
variable {nW nB : Nat} {sz mo : Int32} {F : MS} {W B : Nat → Int32} {lat w : Int32}
theorem and1 (x : Int32) : x &&& 1 = 0 ↔ x.toBitVec.toNat % 2 = 0 := by
  rw [pk_and x (m := 1) 1 (by decide), show (0 : Int32) = nI 0 from rfl, nI_eq (by omega) (by omega)]
theorem here2 (hc : Cst nW nB sz mo) (E : KS) (F : MS) {a : Int32} (h : a &&& 1 = 0) : f_X1_holds nW nB E a = f_X5_isThere sz mo F a (2 : Int32) := by
  rw [Bool.eq_iff_iff, holdsN hc.1, thereN hc 2 (by decide) (by decide)]
  have h3 := hc.1.1
  rw [and1] at h
  refine ⟨fun ⟨j, hj, e⟩ => ⟨j, ?_, e⟩, fun ⟨j, hj, e⟩ => ⟨j, by omega, e⟩⟩
  rw [e, pk_tn (by omega)] at h
  omega
theorem here4 (hc : Cst nW nB sz mo) (E : KS) (F : MS) {a : Int32} (h : a &&& 3 = 0) : f_X1_holds nW nB E a = f_X5_isThere sz mo F a (4 : Int32) := by
  rw [Bool.eq_iff_iff, holdsN hc.1, thereN hc 4 (by decide) (by decide)]
  have h3 := hc.1.1
  rw [and3] at h
  refine ⟨fun ⟨j, hj, e⟩ => ⟨j, ?_, e⟩, fun ⟨j, hj, e⟩ => ⟨j, by omega, e⟩⟩
  rw [e, pk_tn (by omega)] at h
  omega
theorem gt1 (hc : Cst nW nB sz mo) (hm : MemOk nW W (mmemory F)) {ret : Int64} {a : Int32} (h : ¬ (b2i (f_X5_isThere sz mo F a (1 : Int32))) = 0) : f_X1_get nW nB (mkK F W B lat ret) a (1 : Int32) = f_X5_get sz mo F a (1 : Int32) := by
  obtain ⟨j, hj, rfl⟩ := (thereN hc 1 (by decide) (by decide)).mp (b2i_n0.mp h)
  have h3 := hc.1.1
  unfold f_X5_get
  rw [if_pos rfl]
  exact get1_eq nW nB sz mo F W B lat ret hm hj (by omega)
theorem gt2 (hc : Cst nW nB sz mo) (hm : MemOk nW W (mmemory F)) {ret : Int64} {a : Int32} (ha : a &&& 1 = 0) (h : ¬ (b2i (f_X5_isThere sz mo F a (2 : Int32))) = 0) : f_X1_get nW nB (mkK F W B lat ret) a (2 : Int32) = f_X5_get sz mo F a (2 : Int32) := by
  obtain ⟨j, hj, rfl⟩ := (thereN hc 2 (by decide) (by decide)).mp (b2i_n0.mp h)
  have h3 := hc.1.1
  unfold f_X5_get
  rw [if_neg (by decide), if_pos rfl]
  rw [and1, pk_tn (by omega)] at ha
  exact get2_eq nW nB sz mo F W B lat ret hm hj (by omega) ha
theorem gt4 (hc : Cst nW nB sz mo) (hm : MemOk nW W (mmemory F)) {ret : Int64} {a : Int32} (ha : a &&& 3 = 0) (h : ¬ (b2i (f_X5_isThere sz mo F a (4 : Int32))) = 0) : f_X1_get nW nB (mkK F W B lat ret) a (4 : Int32) = f_X5_get sz mo F a (4 : Int32) := by
  obtain ⟨j, hj, rfl⟩ := (thereN hc 4 (by decide) (by decide)).mp (b2i_n0.mp h)
  have h3 := hc.1.1
  unfold f_X5_get
  rw [if_neg (by decide), if_neg (by decide)]
  rw [and3, pk_tn (by omega)] at ha
  exact get4_eq nW nB sz mo F W B lat ret hm hj (by omega) ha
theorem mo_nB (hc : Cst nW nB sz mo) : mo = nI nB := Int32.toInt_inj.mp (by rw [hc.2.2.2, nI_toInt (by have := hc.1.2; omega)])
theorem clk_eq (a : Int32) : f_X3_holds a = f_X5_isClock a := rfl
/-- a device is read, or there is none -/
theorem o_dev (hc : Cst nW nB sz mo) (hm : MemOk nW W (mmemory F)) (hs : SntOk B (msent F) (msentMany F)) (hi : MInv mo F) (hdd : md F = ((w >>> ((7 : Int32) &&& 31)) &&& (31 : Int32))) (hn : mnext F = mpc F + (4 : Int32)) (a : Int32) : ResOk nW mo (mretired F) lat (if (b2i (f_X3_holds a)) = 0 then (if a = (268435456 : Int32) then (f_X4_retire nW nB (mkK F W B lat (mretired F)) w (f_X2_room nW nB (mkK F W B lat (mretired F)))) else (f_X4_trap nW nB (mkK F W B lat (mretired F)) (5 : Int32) a)) else (f_X4_retire nW nB (mkK F W B lat (mretired F)) w (f_X3_half nW nB (mkK F W B lat (mretired F)) a)))
    (fin (if (b2i (f_X5_isDevice a)) = 0 then (f_X5_trap sz mo F (5 : Int32) a) else (if a = (33603576 : Int32) then (f_X5_become sz mo F ((mtime F)).toInt32) else (if a = (33603580 : Int32) then (f_X5_become sz mo F ((jlshr (mtime F) (32 : Int32))).toInt32) else (if a = (33570816 : Int32) then (f_X5_become sz mo F ((mlimit F)).toInt32) else (if a = (33570820 : Int32) then (f_X5_become sz mo F ((jlshr (mlimit F) (32 : Int32))).toInt32) else (f_X5_become sz mo F (mo - (msentMany F))))))))) := by
  have rt := fun v => o_ret (nB := nB) (sz := sz) (lat := lat) (w := w) hm hs hi hdd hn v
  by_cases h1 : a = (33603576 : Int32)
  · subst h1
    rw [if_neg (by decide), if_neg (by decide), if_pos rfl]
    exact rt _
  by_cases h2 : a = (33603580 : Int32)
  · subst h2
    rw [if_neg (by decide), if_neg (by decide), if_neg (by decide), if_pos rfl, ← half_eq]
    exact rt _
  by_cases h3 : a = (33570816 : Int32)
  · subst h3
    rw [if_neg (by decide), if_neg (by decide), if_neg (by decide), if_neg (by decide), if_pos rfl]
    exact rt _
  by_cases h4 : a = (33570820 : Int32)
  · subst h4
    rw [if_neg (by decide), if_neg (by decide), if_neg (by decide), if_neg (by decide), if_neg (by decide), if_pos rfl, ← half_eq]
    exact rt _
  have hh : f_X5_isClock a = false := by
    unfold f_X5_isClock
    rw [if_neg h1, if_neg h2, if_neg h3, if_neg h4]
  rw [clk_eq, hh, if_pos (by decide)]
  by_cases h5 : a = (268435456 : Int32)
  · have hv : (b2i (f_X5_isDevice a)) = 1 := by
      unfold f_X5_isDevice
      rw [hh, if_pos (by decide), if_pos h5]
      rfl
    rw [if_pos h5, hv, if_neg (by decide), if_neg h1, if_neg h2, if_neg h3, if_neg h4]
    have e : f_X2_room nW nB (mkK F W B lat (mretired F)) = mo - msentMany F := by
      rw [mo_nB hc]
      rfl
    rw [e]
    exact rt _
  · have hv : (b2i (f_X5_isDevice a)) = 0 := by
      unfold f_X5_isDevice
      rw [hh, if_pos (by decide), if_neg h5]
      rfl
    rw [if_neg h5, hv, if_pos rfl]
    exact o_trap hm hs hi _ _
theorem o_read (hc : Cst nW nB sz mo) (hm : MemOk nW W (mmemory F)) (hs : SntOk B (msent F) (msentMany F)) (hi : MInv mo F) (hd : Dec w F) : ResOk nW mo (mretired F) lat (f_X4_read nW nB (mkK F W B lat (mretired F)) w) (fin (f_X5_read sz mo F)) := by
  obtain ⟨hw, hdd, hf, hss, ht, hg, hn⟩ := hd
  have hfi : vp_in (mf F) 8 := by rw [hf]; exact f_in
  have il := o_ill (nB := nB) (sz := sz) (lat := lat) hm hs hi hw
  have rt := fun v => o_ret (nB := nB) (sz := sz) (lat := lat) (w := w) hm hs hi hdd hn v
  have tr := fun c v => o_trap (nB := nB) (sz := sz) (lat := lat) hm hs hi c v
  have dv := fun a => o_dev (lat := lat) (w := w) hc hm hs hi hdd hn a
  unfold f_X4_read f_X5_read
  rw [f_eq hf, a_eq nW nB W B lat _ hss, show f_X4_offsetI w = f_X5_immediate sz mo F from by unfold f_X4_offsetI f_X5_immediate; rw [hw]]
  generalize mx F (ms F).toNatClampNeg + f_X5_immediate sz mo F = a
  unfold f_X4_extended
  obtain ⟨j, hj, e⟩ := vp_in_of hfi (by decide)
  rw [e]
  rcases (show j = 0 ∨ j = 1 ∨ j = 2 ∨ j = 3 ∨ j = 4 ∨ j = 5 ∨ j = 6 ∨ j = 7 by omega) with rfl | rfl | rfl | rfl | rfl | rfl | rfl | rfl
  · rw [show ((1 : Int32) <<< ((nI 0 &&& (3 : Int32)) &&& 31)) = (1 : Int32) by decide, if_neg (show ¬ nI 0 = (3 : Int32) by decide), if_pos (show nI 0 ≤ (5 : Int32) by decide), if_neg (show ¬ nI 0 = (3 : Int32) by decide), if_pos (show nI 0 ≤ (5 : Int32) by decide)]
    by_cases c1 : (a &&& ((1 : Int32) - (1 : Int32))) = 0
    · rw [if_pos c1, if_pos c1, here1 hc _ F a]
      by_cases c2 : (b2i (f_X5_isThere sz mo F a (1 : Int32))) = 0
      · rw [if_pos c2, if_pos c2, if_neg (show ¬ (1 : Int32) = 4 by decide), if_neg (show ¬ (1 : Int32) = 4 by decide)]
        exact tr _ _
      · rw [if_neg c2, if_neg c2, gt1 hc hm c2, if_pos (show nI 0 = (0 : Int32) by decide), sx8, if_pos (show nI 0 = (0 : Int32) by decide)]
        exact rt _
    · rw [if_neg c1, if_neg c1]
      exact tr _ _
  · rw [show ((1 : Int32) <<< ((nI 1 &&& (3 : Int32)) &&& 31)) = (2 : Int32) by decide, if_neg (show ¬ nI 1 = (3 : Int32) by decide), if_pos (show nI 1 ≤ (5 : Int32) by decide), if_neg (show ¬ nI 1 = (3 : Int32) by decide), if_pos (show nI 1 ≤ (5 : Int32) by decide)]
    by_cases c1 : (a &&& ((2 : Int32) - (1 : Int32))) = 0
    · have c1' : a &&& 1 = 0 := c1
      rw [if_pos c1, if_pos c1, here2 hc _ F c1']
      by_cases c2 : (b2i (f_X5_isThere sz mo F a (2 : Int32))) = 0
      · rw [if_pos c2, if_pos c2, if_neg (show ¬ (2 : Int32) = 4 by decide), if_neg (show ¬ (2 : Int32) = 4 by decide)]
        exact tr _ _
      · rw [if_neg c2, if_neg c2, gt2 hc hm c1' c2, if_neg (show ¬ nI 1 = (0 : Int32) by decide), if_pos (show nI 1 = (1 : Int32) by decide), sx16, if_neg (show ¬ nI 1 = (0 : Int32) by decide), if_pos (show nI 1 = (1 : Int32) by decide)]
        exact rt _
    · rw [if_neg c1, if_neg c1]
      exact tr _ _
  · rw [show ((1 : Int32) <<< ((nI 2 &&& (3 : Int32)) &&& 31)) = (4 : Int32) by decide, if_neg (show ¬ nI 2 = (3 : Int32) by decide), if_pos (show nI 2 ≤ (5 : Int32) by decide), if_neg (show ¬ nI 2 = (3 : Int32) by decide), if_pos (show nI 2 ≤ (5 : Int32) by decide)]
    by_cases c1 : (a &&& ((4 : Int32) - (1 : Int32))) = 0
    · have c1' : a &&& 3 = 0 := c1
      rw [if_pos c1, if_pos c1, here4 hc _ F c1']
      simp only [if_neg (show ¬ nI 2 = (0 : Int32) by decide), if_neg (show ¬ nI 2 = (1 : Int32) by decide)]
      by_cases c2 : (b2i (f_X5_isThere sz mo F a (4 : Int32))) = 0
      · rw [if_pos c2, if_pos c2, if_pos trivial, if_pos trivial]
        exact dv a
      · rw [if_neg c2, if_neg c2, gt4 hc hm c1' c2]
        exact rt _
    · rw [if_neg c1, if_neg c1]
      exact tr _ _
  · rw [if_pos (show nI 3 = (3 : Int32) by decide), if_pos (show nI 3 = (3 : Int32) by decide)]
    exact il
  · rw [show ((1 : Int32) <<< ((nI 4 &&& (3 : Int32)) &&& 31)) = (1 : Int32) by decide, if_neg (show ¬ nI 4 = (3 : Int32) by decide), if_pos (show nI 4 ≤ (5 : Int32) by decide), if_neg (show ¬ nI 4 = (3 : Int32) by decide), if_pos (show nI 4 ≤ (5 : Int32) by decide)]
    by_cases c1 : (a &&& ((1 : Int32) - (1 : Int32))) = 0
    · rw [if_pos c1, if_pos c1, here1 hc _ F a]
      by_cases c2 : (b2i (f_X5_isThere sz mo F a (1 : Int32))) = 0
      · rw [if_pos c2, if_pos c2, if_neg (show ¬ (1 : Int32) = 4 by decide), if_neg (show ¬ (1 : Int32) = 4 by decide)]
        exact tr _ _
      · rw [if_neg c2, if_neg c2, gt1 hc hm c2]
        simp only [if_neg (show ¬ nI 4 = (0 : Int32) by decide), if_neg (show ¬ nI 4 = (1 : Int32) by decide)]
        exact rt _
    · rw [if_neg c1, if_neg c1]
      exact tr _ _
  · rw [show ((1 : Int32) <<< ((nI 5 &&& (3 : Int32)) &&& 31)) = (2 : Int32) by decide, if_neg (show ¬ nI 5 = (3 : Int32) by decide), if_pos (show nI 5 ≤ (5 : Int32) by decide), if_neg (show ¬ nI 5 = (3 : Int32) by decide), if_pos (show nI 5 ≤ (5 : Int32) by decide)]
    by_cases c1 : (a &&& ((2 : Int32) - (1 : Int32))) = 0
    · have c1' : a &&& 1 = 0 := c1
      rw [if_pos c1, if_pos c1, here2 hc _ F c1']
      by_cases c2 : (b2i (f_X5_isThere sz mo F a (2 : Int32))) = 0
      · rw [if_pos c2, if_pos c2, if_neg (show ¬ (2 : Int32) = 4 by decide), if_neg (show ¬ (2 : Int32) = 4 by decide)]
        exact tr _ _
      · rw [if_neg c2, if_neg c2, gt2 hc hm c1' c2]
        simp only [if_neg (show ¬ nI 5 = (0 : Int32) by decide), if_neg (show ¬ nI 5 = (1 : Int32) by decide)]
        exact rt _
    · rw [if_neg c1, if_neg c1]
      exact tr _ _
  · rw [if_neg (show ¬ nI 6 = (3 : Int32) by decide), if_neg (show ¬ nI 6 ≤ (5 : Int32) by decide), if_neg (show ¬ nI 6 = (3 : Int32) by decide), if_neg (show ¬ nI 6 ≤ (5 : Int32) by decide)]
    exact il
  · rw [if_neg (show ¬ nI 7 = (3 : Int32) by decide), if_neg (show ¬ nI 7 ≤ (5 : Int32) by decide), if_neg (show ¬ nI 7 = (3 : Int32) by decide), if_neg (show ¬ nI 7 ≤ (5 : Int32) by decide)]
    exact il
/-- a byte goes out, or the port takes none -/
theorem o_send (hc : Cst nW nB sz mo) (hm : MemOk nW W (mmemory F)) (hs : SntOk B (msent F) (msentMany F)) (hi : MInv mo F) (hn : mnext F = mpc F + (4 : Int32)) (v : Int32) : ResOk nW mo (mretired F) lat (if (b2i (f_X2_send nW nB (mkK F W B lat (mretired F)) v).1) = 0 then ((4 : Int32), (f_X2_send nW nB (mkK F W B lat (mretired F)) v).2) else (f_X4_retireAt nW nB (f_X2_send nW nB (mkK F W B lat (mretired F)) v).2 ((kplace (f_X2_send nW nB (mkK F W B lat (mretired F)) v).2) + (4 : Int32))))
    (fin (if (msentMany F) = mo then ((4 : Int32), F) else ((-1 : Int32), (msentMany_ (msent_ F (upd (msent F) ((msentMany F)).toNatClampNeg (v &&& (255 : Int32)))) ((msentMany F) + (1 : Int32)))))) := by
  have hk : (msentMany F) < (nI nB) ↔ ¬ (msentMany F) = mo := by
    rw [← mo_nB hc, Int32.lt_iff_toInt_lt]
    have q1 := hi.2.2.2
    constructor
    · intro h e
      rw [e] at h
      omega
    · intro h
      have : (msentMany F).toInt ≠ mo.toInt := fun q => h (Int32.toInt_inj.mp q)
      omega
  by_cases c : (msentMany F) = mo
  · have e : f_X2_send nW nB (mkK F W B lat (mretired F)) v = (false, mkK F W B lat (mretired F)) := if_neg (fun q => hk.mp q c)
    rw [e, if_pos (show b2i (false, mkK F W B lat (mretired F)).1 = 0 from rfl), if_pos c]
    unfold fin
    rw [if_neg (show ¬ ((4 : Int32), F).1 = -1 from by show ¬ (4 : Int32) = -1; decide)]
    exact ⟨rfl, W, B, by rw [if_neg (show ¬ ((4 : Int32), F).1 = 0 from by show ¬ (4 : Int32) = 0; decide)], hm, hs, hi, rfl⟩
  · have e : f_X2_send nW nB (mkK F W B lat (mretired F)) v = (true, mkK (msentMany_ (msent_ F (upd (msent F) ((msentMany F)).toNatClampNeg (v &&& (255 : Int32)))) ((msentMany F) + (1 : Int32))) W (upd B ((msentMany F)).toNatClampNeg (vp_nar .byte (v).toInt8.toInt32)) lat (mretired F)) := if_pos (hk.mpr c)
    rw [e, if_neg (show ¬ b2i (true, mkK (msentMany_ (msent_ F (upd (msent F) ((msentMany F)).toNatClampNeg (v &&& (255 : Int32)))) ((msentMany F) + (1 : Int32))) W (upd B ((msentMany F)).toNatClampNeg (vp_nar .byte (v).toInt8.toInt32)) lat (mretired F)).1 = 0 from by show ¬ b2i true = 0; decide), if_neg c]
    have q1 := hi.2.2.2
    have q2 := hc.2.1
    have q3 : (msentMany F).toInt ≠ mo.toInt := fun q => c (Int32.toInt_inj.mp q)
    obtain ⟨k, hk2, ek⟩ := nI_of (x := msentMany F) (by rw [ltz]; omega)
    have q4 : ((msentMany F) + (1 : Int32)).toInt = (msentMany F).toInt + 1 := by
      rw [add_sm (by omega) (by omega) (by decide) (by decide)]
      rfl
    have q5 : (msentMany F).toInt = k := by rw [ek, nI_toInt hk2]
    refine o_at (F := msentMany_ (msent_ F (upd (msent F) ((msentMany F)).toNatClampNeg (v &&& (255 : Int32)))) ((msentMany F) + (1 : Int32))) hm ?_ ⟨hi.1, hi.2.1, hi.2.2.1, ?_⟩ hn (al4 hi.2.1)
    · intro i hii
      have hi2 : (i : Int) < (msentMany F + (1 : Int32)).toInt := hii
      rw [q4] at hi2
      show upd B ((msentMany F)).toNatClampNeg (vp_nar .byte (v).toInt8.toInt32) i &&& 255 = upd (msent F) ((msentMany F)).toNatClampNeg (v &&& (255 : Int32)) i
      rw [ek, nI_clamp hk2]
      by_cases h : i = k
      · subst h
        rw [pk_us, pk_us]
        exact snd8 v
      · rw [pk_un h, pk_un h]
        exact hs i (by omega)
    · show 0 ≤ (msentMany F + (1 : Int32)).toInt ∧ (msentMany F + (1 : Int32)).toInt ≤ mo.toInt
      rw [q4]
      omega
/-- a clock's half is stored -/
theorem o_clk (hm : MemOk nW W (mmemory F)) (hs : SntOk B (msent F) (msentMany F)) (hi : MInv mo F) (hn : mnext F = mpc F + (4 : Int32)) (a v : Int32) (hcl : ¬ (b2i (f_X5_isClock a)) = 0) : ResOk nW mo (mretired F) lat (f_X4_retireAt nW nB (f_X3_setHalf nW nB (mkK F W B lat (mretired F)) a v) ((kplace (f_X3_setHalf nW nB (mkK F W B lat (mretired F)) a v)) + (4 : Int32)))
    (fin (if a = (33603580 : Int32) then (if a = (33603576 : Int32) then ((-1 : Int32), (mtime_ F (f_X5_mixed (mtime F) true v))) else ((-1 : Int32), (mtime_ F (f_X5_mixed (mtime F) true v)))) else (if a = (33570820 : Int32) then (if a = (33603576 : Int32) then ((-1 : Int32), (mtime_ F (f_X5_mixed (mtime F) true v))) else ((-1 : Int32), (mlimit_ F (f_X5_mixed (mlimit F) true v)))) else (if a = (33603576 : Int32) then ((-1 : Int32), (mtime_ F (f_X5_mixed (mtime F) false v))) else ((-1 : Int32), (mlimit_ F (f_X5_mixed (mlimit F) false v))))))) := by
  have kt := fun t => o_at (nB := nB) (lat := lat) (F := mtime_ F t) hm hs hi hn (al4 hi.2.1)
  have kl := fun t => o_at (nB := nB) (lat := lat) (F := mlimit_ F t) hm hs hi hn (al4 hi.2.1)
  unfold f_X5_isClock at hcl
  by_cases h1 : a = (33603576 : Int32)
  · subst h1
    rw [if_neg (by decide), if_neg (by decide), if_pos rfl, ← mixed_eq]
    exact kt _
  by_cases h2 : a = (33603580 : Int32)
  · subst h2
    rw [if_pos rfl, if_neg (by decide), ← mixed_eq]
    exact kt _
  by_cases h3 : a = (33570816 : Int32)
  · subst h3
    rw [if_neg (by decide), if_neg (by decide), if_neg (by decide), ← mixed_eq]
    exact kl _
  by_cases h4 : a = (33570820 : Int32)
  · subst h4
    rw [if_neg (by decide), if_pos rfl, if_neg (by decide), ← mixed_eq]
    exact kl _
  rw [if_neg h1, if_neg h2, if_neg h3, if_neg h4] at hcl
  exact absurd (by decide) hcl
/-- what isn't memory is stored to -/
theorem o_out (hc : Cst nW nB sz mo) (hm : MemOk nW W (mmemory F)) (hs : SntOk B (msent F) (msentMany F)) (hi : MInv mo F) (hn : mnext F = mpc F + (4 : Int32)) (a v n : Int32) : ResOk nW mo (mretired F) lat
    (if n = (4 : Int32) then (if (b2i (f_X3_holds a)) = 0 then (if a = (268435456 : Int32) then (if (b2i (f_X2_send nW nB (mkK F W B lat (mretired F)) v).1) = 0 then ((4 : Int32), (f_X2_send nW nB (mkK F W B lat (mretired F)) v).2) else (f_X4_retireAt nW nB (f_X2_send nW nB (mkK F W B lat (mretired F)) v).2 ((kplace (f_X2_send nW nB (mkK F W B lat (mretired F)) v).2) + (4 : Int32)))) else (f_X4_trap nW nB (mkK F W B lat (mretired F)) (7 : Int32) a)) else (f_X4_retireAt nW nB (f_X3_setHalf nW nB (mkK F W B lat (mretired F)) a v) ((kplace (f_X3_setHalf nW nB (mkK F W B lat (mretired F)) a v)) + (4 : Int32)))) else (if a = (268435456 : Int32) then (if (b2i (f_X2_send nW nB (mkK F W B lat (mretired F)) v).1) = 0 then ((4 : Int32), (f_X2_send nW nB (mkK F W B lat (mretired F)) v).2) else (f_X4_retireAt nW nB (f_X2_send nW nB (mkK F W B lat (mretired F)) v).2 ((kplace (f_X2_send nW nB (mkK F W B lat (mretired F)) v).2) + (4 : Int32)))) else (f_X4_trap nW nB (mkK F W B lat (mretired F)) (7 : Int32) a)))
    (fin (if a = (268435456 : Int32) then (if (msentMany F) = mo then ((4 : Int32), F) else ((-1 : Int32), (msentMany_ (msent_ F (upd (msent F) ((msentMany F)).toNatClampNeg (v &&& (255 : Int32)))) ((msentMany F) + (1 : Int32))))) else (if n = (4 : Int32) then (if (b2i (f_X5_isClock a)) = 0 then (f_X5_trap sz mo F (7 : Int32) a) else (if a = (33603580 : Int32) then (if a = (33603576 : Int32) then ((-1 : Int32), (mtime_ F (f_X5_mixed (mtime F) true v))) else ((-1 : Int32), (mtime_ F (f_X5_mixed (mtime F) true v)))) else (if a = (33570820 : Int32) then (if a = (33603576 : Int32) then ((-1 : Int32), (mtime_ F (f_X5_mixed (mtime F) true v))) else ((-1 : Int32), (mlimit_ F (f_X5_mixed (mlimit F) true v)))) else (if a = (33603576 : Int32) then ((-1 : Int32), (mtime_ F (f_X5_mixed (mtime F) false v))) else ((-1 : Int32), (mlimit_ F (f_X5_mixed (mlimit F) false v))))))) else (f_X5_trap sz mo F (7 : Int32) a)))) := by
  have sd := o_send (lat := lat) hc hm hs hi hn v
  have tr := o_trap (nB := nB) (sz := sz) (lat := lat) hm hs hi (7 : Int32) a
  have ck := o_clk (nB := nB) (lat := lat) hm hs hi hn a v
  by_cases c4 : n = (4 : Int32)
  · rw [if_pos c4, if_pos c4, clk_eq]
    by_cases cp : a = (268435456 : Int32)
    · rw [if_pos cp, if_pos cp, if_pos (show (b2i (f_X5_isClock a)) = 0 by rw [cp]; decide)]
      exact sd
    · rw [if_neg cp, if_neg cp]
      by_cases cc : (b2i (f_X5_isClock a)) = 0
      · rw [if_pos cc, if_pos cc]
        exact tr
      · rw [if_neg cc, if_neg cc]
        exact ck cc
  · rw [if_neg c4, if_neg c4]
    by_cases cp : a = (268435456 : Int32)
    · rw [if_pos cp, if_pos cp]
      exact sd
    · rw [if_neg cp, if_neg cp]
      exact tr
theorem o_mem (hs : SntOk B (msent F) (msentMany F)) (hi : MInv mo F) (hn : mnext F = mpc F + (4 : Int32)) {W' mem' : Nat → Int32} (hm : MemOk nW W' mem') : ResOk nW mo (mretired F) lat (f_X4_retireAt nW nB (mkK F W' B lat (mretired F)) (kplace (mkK F W' B lat (mretired F)) + (4 : Int32))) (fin ((-1 : Int32), mmemory_ F mem')) :=
  o_at (F := mmemory_ F mem') hm hs hi hn (al4 hi.2.1)
theorem o_store (hc : Cst nW nB sz mo) (hm : MemOk nW W (mmemory F)) (hs : SntOk B (msent F) (msentMany F)) (hi : MInv mo F) (hd : Dec w F) : ResOk nW mo (mretired F) lat (f_X4_store nW nB (mkK F W B lat (mretired F)) w) (fin (f_X5_store sz mo F)) := by
  obtain ⟨hw, hdd, hf, hss, ht, hg, hn⟩ := hd
  have hfi : vp_in (mf F) 8 := by rw [hf]; exact f_in
  have il := o_ill (nB := nB) (sz := sz) (lat := lat) hm hs hi hw
  have tr := fun c v => o_trap (nB := nB) (sz := sz) (lat := lat) hm hs hi c v
  have ou := fun a v n => o_out (lat := lat) hc hm hs hi hn a v n
  have h3 := hc.1.1
  unfold f_X4_store f_X5_store
  rw [f_eq hf, a_eq nW nB W B lat _ hss, b_eq nW nB W B lat _ ht, show f_X4_offsetS w = (((mword F >>> ((25 : Int32) &&& 31)) <<< ((5 : Int32) &&& 31)) ||| (md F)) from by unfold f_X4_offsetS; rw [sh_7, hw, hdd]]
  generalize mx F (ms F).toNatClampNeg + (((mword F >>> ((25 : Int32) &&& 31)) <<< ((5 : Int32) &&& 31)) ||| (md F)) = a
  generalize mx F (mt F).toNatClampNeg = v
  obtain ⟨j, hj, e⟩ := vp_in_of hfi (by decide)
  rw [e]
  by_cases c0n : ¬ nI j ≤ (2 : Int32)
  · rw [if_neg c0n, if_neg c0n]
    exact il
  have c0 : nI j ≤ (2 : Int32) := Classical.not_not.mp c0n
  rw [if_pos c0, if_pos c0]
  have hj2 : j ≤ 2 := by
    rcases Nat.lt_or_ge 2 j with q | q
    · exact absurd c0 (nI_ge (a := 2) q (by omega))
    · exact q
  rcases (show j = 0 ∨ j = 1 ∨ j = 2 by omega) with rfl | rfl | rfl
  · rw [show ((1 : Int32) <<< (nI 0 &&& 31)) = (1 : Int32) by decide]
    by_cases c1 : (a &&& ((1 : Int32) - (1 : Int32))) = 0
    · rw [if_pos c1, if_pos c1, here1 hc _ F a]
      by_cases c2 : (b2i (f_X5_isThere sz mo F a (1 : Int32))) = 0
      · rw [if_pos c2, if_pos c2]
        exact ou a v 1
      · rw [if_neg c2, if_neg c2]
        obtain ⟨i, hi2, rfl⟩ := (thereN hc 1 (by decide) (by decide)).mp (b2i_n0.mp c2)
        rw [put_mk _ _ _ _ _ _ _ (by omega), show f_X5_put sz mo F (nI i) (1 : Int32) v = f_X5_put_1 sz mo F (nI i) v from if_pos rfl, mput1 sz mo F (by omega)]
        exact o_mem hs hi hn (put1_ok hm i v _ (sb_bv v (k := 0) (by decide)))
    · rw [if_neg c1, if_neg c1]
      exact tr _ _
  · rw [show ((1 : Int32) <<< (nI 1 &&& 31)) = (2 : Int32) by decide]
    by_cases c1 : (a &&& ((2 : Int32) - (1 : Int32))) = 0
    · have c1' : a &&& 1 = 0 := c1
      rw [if_pos c1, if_pos c1, here2 hc _ F c1']
      by_cases c2 : (b2i (f_X5_isThere sz mo F a (2 : Int32))) = 0
      · rw [if_pos c2, if_pos c2]
        exact ou a v 2
      · rw [if_neg c2, if_neg c2]
        obtain ⟨i, hi2, rfl⟩ := (thereN hc 2 (by decide) (by decide)).mp (b2i_n0.mp c2)
        rw [and1, pk_tn (by omega)] at c1'
        rw [put_mk _ _ _ _ _ _ _ (by omega), show f_X5_put sz mo F (nI i) (2 : Int32) v = f_X5_put_2 sz mo F (nI i) v from by unfold f_X5_put; rw [if_neg (by decide), if_pos rfl], mput2 sz mo F (by omega)]
        exact o_mem hs hi hn (put2_ok hm i c1' v)
    · rw [if_neg c1, if_neg c1]
      exact tr _ _
  · rw [show ((1 : Int32) <<< (nI 2 &&& 31)) = (4 : Int32) by decide]
    by_cases c1 : (a &&& ((4 : Int32) - (1 : Int32))) = 0
    · have c1' : a &&& 3 = 0 := c1
      rw [if_pos c1, if_pos c1, here4 hc _ F c1']
      by_cases c2 : (b2i (f_X5_isThere sz mo F a (4 : Int32))) = 0
      · rw [if_pos c2, if_pos c2]
        exact ou a v 4
      · rw [if_neg c2, if_neg c2]
        obtain ⟨i, hi2, rfl⟩ := (thereN hc 4 (by decide) (by decide)).mp (b2i_n0.mp c2)
        rw [and3, pk_tn (by omega)] at c1'
        rw [put_mk _ _ _ _ _ _ _ (by omega), show f_X5_put sz mo F (nI i) (4 : Int32) v = f_X5_put_4 sz mo F (nI i) v from by unfold f_X5_put; rw [if_neg (by decide), if_neg (by decide)], mput4 sz mo F (by omega)]
        exact o_mem hs hi hn (put4_ok hm i c1' v)
    · rw [if_neg c1, if_neg c1]
      exact tr _ _
end OPS3
