/-! the tie over the calls, but step -/
theorem tick_eq (nW nB : Nat) (sz mo : Int32) (F : MS) (W B : Nat → Int32) (lat : Int32) (ret : Int64) : f_X4_tick nW nB (mkK F W B lat ret) = mkK (f_X5_tick sz mo F) W B lat ret := by
  rfl
theorem rel_tick {nW nB : Nat} {sz mo : Int32} {E : KS} {F : MS} (h : Rel nW nB sz mo E F) : Rel nW nB sz mo (f_X4_tick nW nB E) (f_X5_tick sz mo F) := by
  obtain ⟨hc, W, B, rfl, hm, hs, hi⟩ := h
  refine ⟨hc, W, B, ?_, hm, hs, hi⟩
  rw [tick_eq nW nB sz mo]
  rfl
theorem rel_reg {nW nB : Nat} {sz mo : Int32} {E : KS} {F : MS} (h : Rel nW nB sz mo E F) (a : Int32) : f_X4_reg nW nB E a = f_X5_reg sz mo F a := by
  obtain ⟨hc, W, B, rfl, hm, hs, hi⟩ := h
  rfl
theorem rel_pc {nW nB : Nat} {sz mo : Int32} {E : KS} {F : MS} (h : Rel nW nB sz mo E F) : f_X4_pc nW nB E = f_X5_pc sz mo F := by
  obtain ⟨hc, W, B, rfl, hm, hs, hi⟩ := h
  rfl
theorem rel_told {nW nB : Nat} {sz mo : Int32} {E : KS} {F : MS} (h : Rel nW nB sz mo E F) (a : Int32) : f_X4_told nW nB E a = f_X5_told sz mo F a := by
  obtain ⟨hc, W, B, rfl, hm, hs, hi⟩ := h
  rfl
theorem rel_outSize {nW nB : Nat} {sz mo : Int32} {E : KS} {F : MS} (h : Rel nW nB sz mo E F) : f_X4_outSize nW nB E = f_X5_outSize sz mo F := by
  obtain ⟨hc, W, B, rfl, hm, hs, hi⟩ := h
  rfl
theorem rel_out {nW nB : Nat} {sz mo : Int32} {E : KS} {F : MS} (h : Rel nW nB sz mo E F) (a : Int32) : f_X4_out nW nB E a = f_X5_out sz mo F a := by
  obtain ⟨hc, W, B, rfl, hm, hs, hi⟩ := h
  show (if a < 0 then (-1 : Int32) else (if (msentMany F) ≤ a then (-1 : Int32) else (if (nI nB) ≤ a then (-1 : Int32) else ((B (a).toNatClampNeg) &&& (255 : Int32))))) = _
  unfold f_X5_out
  by_cases c1 : a < 0
  · rw [if_pos c1, if_pos c1]
  rw [if_neg c1, if_neg c1]
  by_cases c2 : msentMany F ≤ a
  · rw [if_pos c2, if_pos c2]
  rw [if_neg c2, if_neg c2]
  obtain ⟨j, hj, rfl⟩ := nI_of c1
  have h1 := hc.2.2.2
  have h2 := hi.2.2.2.2
  have h3 := hc.1.2
  rw [Int32.le_iff_toInt_le, nI_toInt hj] at c2
  have c3 : ¬ nI nB ≤ nI j := by
    rw [Int32.le_iff_toInt_le, nI_toInt hj, nI_toInt (by omega)]
    omega
  rw [if_neg c3, nI_clamp hj]
  exact hs j (by omega)
theorem lists_f {a : Int32} (h : f_X0_lists a = false) : ¬ a = 768 ∧ ¬ a = 769 ∧ ¬ a = 772 ∧ ¬ a = 773 ∧ ¬ a = 832 ∧ ¬ a = 833 ∧ ¬ a = 834 ∧ ¬ a = 835 ∧ ¬ a = 836 ∧ ¬ a = 3860 := by
  unfold f_X0_lists at h
  by_cases h1 : a = 768
  · rw [if_pos h1] at h; cases h
  by_cases h2 : a = 769
  · rw [if_neg h1, if_pos h2] at h; cases h
  by_cases h3 : a = 772
  · rw [if_neg h1, if_neg h2, if_pos h3] at h; cases h
  by_cases h4 : a = 773
  · rw [if_neg h1, if_neg h2, if_neg h3, if_pos h4] at h; cases h
  by_cases h5 : a = 832
  · rw [if_neg h1, if_neg h2, if_neg h3, if_neg h4, if_pos h5] at h; cases h
  by_cases h6 : a = 833
  · rw [if_neg h1, if_neg h2, if_neg h3, if_neg h4, if_neg h5, if_pos h6] at h; cases h
  by_cases h7 : a = 834
  · rw [if_neg h1, if_neg h2, if_neg h3, if_neg h4, if_neg h5, if_neg h6, if_pos h7] at h; cases h
  by_cases h8 : a = 835
  · rw [if_neg h1, if_neg h2, if_neg h3, if_neg h4, if_neg h5, if_neg h6, if_neg h7, if_pos h8] at h; cases h
  by_cases h9 : a = 836
  · rw [if_neg h1, if_neg h2, if_neg h3, if_neg h4, if_neg h5, if_neg h6, if_neg h7, if_neg h8, if_pos h9] at h; cases h
  by_cases h10 : a = 3860
  · rw [if_neg h1, if_neg h2, if_neg h3, if_neg h4, if_neg h5, if_neg h6, if_neg h7, if_neg h8, if_neg h9, if_pos h10] at h; cases h
  exact ⟨h1, h2, h3, h4, h5, h6, h7, h8, h9, h10⟩
theorem cget_eq (nW nB : Nat) (sz mo : Int32) (F : MS) (W B : Nat → Int32) (lat : Int32) (ret : Int64) (a : Int32) : f_X0_get nW nB (mkK F W B lat ret) a (f_X3_isDue nW nB (mkK F W B lat ret)) = f_X5_csr sz mo F a := by
  rw [due_eq nW nB sz mo]
  rfl
theorem csr_eq (nW nB : Nat) (sz mo : Int32) (F : MS) (W B : Nat → Int32) (lat : Int32) (ret : Int64) (a : Int32) : f_X4_csr nW nB (mkK F W B lat ret) a = f_X5_csr sz mo F a := by
  unfold f_X4_csr
  by_cases h : f_X0_lists a = false
  · rw [if_pos (b2i_0.mpr h)]
    obtain ⟨h1, h2, h3, h4, h5, h6, h7, h8, h9, -⟩ := lists_f h
    unfold f_X5_csr
    rw [if_neg h1, if_neg h2, if_neg h3, if_neg h4, if_neg h5, if_neg h6, if_neg h7, if_neg h8, if_neg h9]
  · rw [if_neg (fun q => h (b2i_0.mp q))]
    exact cget_eq nW nB sz mo F W B lat ret a
theorem rel_csr {nW nB : Nat} {sz mo : Int32} {E : KS} {F : MS} (h : Rel nW nB sz mo E F) (a : Int32) : f_X4_csr nW nB E a = f_X5_csr sz mo F a := by
  obtain ⟨hc, W, B, rfl, hm, hs, hi⟩ := h
  exact csr_eq nW nB sz mo F W B _ _ a
theorem reset_eq (nW nB : Nat) (sz mo : Int32) (F : MS) (W B : Nat → Int32) (lat : Int32) (ret : Int64) : f_X4_reset nW nB (mkK F W B lat ret) = mkK (f_X5_reset sz mo F) W B 0 0 := by
  rfl
theorem rel_reset {nW nB : Nat} {sz mo : Int32} {E : KS} {F : MS} (h : Rel nW nB sz mo E F) : Rel nW nB sz mo (f_X4_reset nW nB E) (f_X5_reset sz mo F) := by
  obtain ⟨hc, W, B, rfl, hm, hs, hi⟩ := h
  refine ⟨hc, W, B, ?_, hm, ?_, ?_, ?_, ?_, ?_⟩
  · rw [reset_eq nW nB sz mo]
    rfl
  · intro i h
    have h2 : (i : Int) < (0 : Int32).toInt := h
    rw [Int32.toInt_zero] at h2
    omega
  · rfl
  · show (0 : Int32) &&& 3 = 0
    decide
  · show (0 : Int32) &&& 3 = 0
    decide
  · show 0 ≤ (0 : Int32).toInt ∧ (0 : Int32).toInt ≤ mo.toInt
    rw [Int32.toInt_zero]
    exact ⟨by omega, hc.2.1.2.1⟩
theorem byt0 (a : Nat) : bytK (fun _ => 0) a = 0 := by
  apply tb
  rw [bytK_bv]
  unfold ext8
  apply BitVec.eq_of_getLsbD_eq
  intro i hi
  rw [BitVec.getLsbD_and, BitVec.getLsbD_ushiftRight, show (0 : Int32).toBitVec = 0#32 from rfl, BitVec.getLsbD_zero, BitVec.getLsbD_zero]
  rfl
theorem clB_eq (a : Int32) : clB a = nearF a := by
  have h1 : (64 : Int32) ≤ a ↔ 64 ≤ a.toInt := Int32.le_iff_toInt_le
  have h2 : a ≤ (65536 : Int32) ↔ a.toInt ≤ 65536 := Int32.le_iff_toInt_le
  have h3 : a < (65536 : Int32) ↔ a.toInt < 65536 := Int32.lt_iff_toInt_lt
  have h4 : (64 : Int32) < a ↔ 64 < a.toInt := Int32.lt_iff_toInt_lt
  have e : ∀ {x y : Int32}, x.toInt = y.toInt → x = y := fun h => Int32.toInt_inj.mp h
  unfold clB nearF
  by_cases c3 : a < 65536
  · rw [if_pos c3, if_pos (h2.mpr (by have := h3.mp c3; omega))]
    by_cases c4 : (64 : Int32) < a
    · rw [if_pos c4, if_pos (h1.mpr (by have := h4.mp c4; omega))]
    · rw [if_neg c4]
      by_cases c1 : (64 : Int32) ≤ a
      · rw [if_pos c1]
        apply e
        have q1 := h1.mp c1
        have q4 : ¬ 64 < a.toInt := fun q => c4 (h4.mpr q)
        show (64 : Int) = a.toInt
        omega
      · rw [if_neg c1]
  · have q3 : ¬ a.toInt < 65536 := fun q => c3 (h3.mpr q)
    rw [if_neg c3, if_pos (by decide), if_pos (h1.mpr (by omega))]
    by_cases c2 : a ≤ (65536 : Int32)
    · rw [if_pos c2]
      apply e
      have q2 := h2.mp c2
      show (65536 : Int) = a.toInt
      omega
    · rw [if_neg c2]
theorem clP_eq (a : Int32) : clP a = mostF a := by
  have h1 : (0 : Int32) ≤ a ↔ 0 ≤ a.toInt := Int32.le_iff_toInt_le
  have h2 : a ≤ (4096 : Int32) ↔ a.toInt ≤ 4096 := Int32.le_iff_toInt_le
  have h3 : a < (4096 : Int32) ↔ a.toInt < 4096 := Int32.lt_iff_toInt_lt
  have h4 : (0 : Int32) < a ↔ 0 < a.toInt := Int32.lt_iff_toInt_lt
  have e : ∀ {x y : Int32}, x.toInt = y.toInt → x = y := fun h => Int32.toInt_inj.mp h
  unfold clP mostF
  by_cases c3 : a < 4096
  · rw [if_pos c3, if_pos (h2.mpr (by have := h3.mp c3; omega))]
    by_cases c4 : (0 : Int32) < a
    · rw [if_pos c4, if_pos (h1.mpr (by have := h4.mp c4; omega))]
    · rw [if_neg c4]
      by_cases c1 : (0 : Int32) ≤ a
      · rw [if_pos c1]
        apply e
        have q1 := h1.mp c1
        have q4 : ¬ 0 < a.toInt := fun q => c4 (h4.mpr q)
        show (0 : Int) = a.toInt
        omega
      · rw [if_neg c1]
  · have q3 : ¬ a.toInt < 4096 := fun q => c3 (h3.mpr q)
    rw [if_neg c3, if_pos (by decide), if_pos (h1.mpr (by omega))]
    by_cases c2 : a ≤ (4096 : Int32)
    · rw [if_pos c2]
      apply e
      have q2 := h2.mp c2
      show (4096 : Int) = a.toInt
      omega
    · rw [if_neg c2]
theorem nearF_n (a : Int32) : ∃ n : Nat, 64 ≤ n ∧ n ≤ 65536 ∧ nearF a = nI n := by
  unfold nearF
  by_cases c1 : (64 : Int32) ≤ a
  · rw [if_pos c1]
    by_cases c2 : a ≤ (65536 : Int32)
    · rw [if_pos c2]
      have h1 : 64 ≤ a.toInt := Int32.le_iff_toInt_le.mp c1
      have h2 : a.toInt ≤ 65536 := Int32.le_iff_toInt_le.mp c2
      obtain ⟨j, hj, rfl⟩ := nI_of (x := a) (by rw [ltz]; omega)
      rw [nI_toInt hj] at h1 h2
      exact ⟨j, by omega, by omega, rfl⟩
    · rw [if_neg c2]
      exact ⟨65536, by decide, by decide, rfl⟩
  · rw [if_neg c1]
    exact ⟨64, by decide, by decide, rfl⟩
theorem mostF_n (a : Int32) : ∃ n : Nat, n ≤ 4096 ∧ mostF a = nI n := by
  unfold mostF
  by_cases c1 : (0 : Int32) ≤ a
  · rw [if_pos c1]
    by_cases c2 : a ≤ (4096 : Int32)
    · rw [if_pos c2]
      have h1 : 0 ≤ a.toInt := Int32.le_iff_toInt_le.mp c1
      have h2 : a.toInt ≤ 4096 := Int32.le_iff_toInt_le.mp c2
      obtain ⟨j, hj, rfl⟩ := nI_of (x := a) (by rw [ltz]; omega)
      rw [nI_toInt hj] at h1 h2
      exact ⟨j, by omega, rfl⟩
    · rw [if_neg c2]
      exact ⟨4096, by decide, rfl⟩
  · rw [if_neg c1]
    exact ⟨0, by decide, rfl⟩
theorem and_m4 {n : Nat} (h : n < 2 ^ 31) : nI n &&& (-4 : Int32) = nI (4 * (n / 4)) := by
  apply tb
  rw [and_bv]
  have e : (nI n).toBitVec &&& (-4 : Int32).toBitVec = ((nI n).toBitVec >>> 2) <<< 2 := by
    apply BitVec.eq_of_getLsbD_eq
    intro i hi
    rw [BitVec.getLsbD_and, BitVec.getLsbD_shiftLeft, BitVec.getLsbD_ushiftRight, show (-4 : Int32).toBitVec = 4294967292#32 from by decide]
    have hm : (4294967292#32).getLsbD i = !decide (i < 2) := (by decide +kernel : ∀ j : Fin 32, (4294967292#32).getLsbD j.val = !decide (j.val < 2)) ⟨i, hi⟩
    rw [hm]
    by_cases h2 : i < 2
    · simp [h2]
    · have : 2 + (i - 2) = i := by omega
      simp [h2, hi, this]
  rw [e]
  apply BitVec.eq_of_toNat_eq
  rw [BitVec.toNat_shiftLeft, BitVec.toNat_ushiftRight, pk_tn (by omega), pk_tn (by omega), Nat.shiftLeft_eq, Nat.shiftRight_eq_div_pow]
  omega
theorem rel_init (a1 a2 : Int32) : Cst (nWof a1) (nBof a2) (nearF a1 &&& (-4 : Int32)) (mostF a2) ∧ ¬ (clB a1 >>> ((2 : Int32) &&& 31)) < 0 ∧ ¬ clP a2 < 0 := by
  unfold nWof nBof
  rw [clB_eq, clP_eq]
  obtain ⟨n, h1, h2, e1⟩ := nearF_n a1
  obtain ⟨k, h3, e2⟩ := mostF_n a2
  rw [e1, e2, and_m4 (by omega), idxN (by omega), nI_clamp (by omega), pk_shrN (by omega) _ 2 (by decide), ltz, ltz]
  show ((n / 4 ≤ 16384 ∧ k ≤ 4096) ∧ ((64 ≤ (nI (4 * (n / 4))).toInt ∧ (nI (4 * (n / 4))).toInt ≤ 65536) ∧ (0 ≤ (nI k).toInt ∧ (nI k).toInt ≤ 4096)) ∧ (nI (4 * (n / 4))).toInt = 4 * ((n / 4 : Nat) : Int) ∧ (nI k).toInt = k) ∧ _
  rw [nI_toInt (by omega), nI_toInt (by omega), nI_toInt (by omega)]
  omega
theorem rel_new (a1 a2 : Int32) : Rel (nWof a1) (nBof a2) (nearF a1 &&& (-4 : Int32)) (mostF a2) (f_X4_reset (nWof a1) (nBof a2) KE0) (f_X5_reset (nearF a1 &&& (-4 : Int32)) (mostF a2) ME0) := by
  have hc := (rel_init a1 a2).1
  apply rel_reset
  refine ⟨hc, fun _ => 0, fun _ => 0, rfl, fun a _ => (byt0 a).symm, ?_, rfl, ?_, ?_, ?_⟩
  · intro i h
    have h2 : (i : Int) < (0 : Int32).toInt := h
    rw [Int32.toInt_zero] at h2
    omega
  · show (0 : Int32) &&& 3 = 0
    decide
  · show (0 : Int32) &&& 3 = 0
    decide
  · show 0 ≤ (0 : Int32).toInt ∧ (0 : Int32).toInt ≤ (mostF a2).toInt
    rw [Int32.toInt_zero]
    exact ⟨by omega, hc.2.1.2.1⟩
