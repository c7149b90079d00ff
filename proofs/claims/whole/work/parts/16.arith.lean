/-! arithmetic that class and reference write otherwise -/
theorem and3 (x : Int32) : x &&& 3 = 0 ↔ x.toBitVec.toNat % 4 = 0 := by
  rw [pk_and x (m := 3) 2 (by decide), show (0 : Int32) = nI 0 from rfl, nI_eq (by omega) (by omega)]
theorem al_add (x : Int32) (k : Nat) (hk : k < 2 ^ 31) (h4 : k % 4 = 0) (h : x &&& 3 = 0) : (x + nI k) &&& 3 = 0 := by
  rw [and3] at h ⊢
  rw [show (x + nI k).toBitVec = x.toBitVec + (nI k).toBitVec from rfl, BitVec.toNat_add, pk_tn (by omega)]
  omega
theorem al4 {x : Int32} (h : x &&& 3 = 0) : (x + (4 : Int32)) &&& 3 = 0 := al_add x 4 (by decide) (by decide) h
theorem al28 {x : Int32} (h : x &&& 3 = 0) : (x + (28 : Int32)) &&& 3 = 0 := al_add x 28 (by decide) (by decide) h
theorem alm4 (x : Int32) : (x &&& (-4 : Int32)) &&& 3 = 0 := by
  rw [Int32.and_assoc, show (-4 : Int32) &&& 3 = 0 from by decide, Int32.and_zero]
theorem div64 (a b : Int32) : (a.toInt64 / b.toInt64).toInt32 = a / b := by
  apply Int32.toInt_inj.mp
  rw [Int64.toInt_toInt32, Int64.toInt_div_of_ne_left _ _ a.toInt64_ne_minValue, Int32.toInt_toInt64, Int32.toInt_toInt64, Int32.toInt_div]
theorem div_m1 (a : Int32) : a / (-1 : Int32) = -a := by
  apply Int32.toInt_inj.mp
  rw [Int32.toInt_div, show (-1 : Int32).toInt = -1 from by decide, Int.tdiv_neg, Int.tdiv_one, Int32.toInt_neg]
theorem rem64 (a b : Int32) : (a.toInt64 - a.toInt64 / b.toInt64 * b.toInt64).toInt32 = a - a / b * b := by
  rw [Int64.toInt32_sub, Int64.toInt32_mul, div64, Int32.toInt32_toInt64, Int32.toInt32_toInt64]
theorem rem_m1 (a : Int32) : a - a / (-1 : Int32) * (-1 : Int32) = 0 := by
  rw [div_m1, Int32.mul_neg, Int32.mul_one, Int32.neg_neg, Int32.sub_self]
theorem sx8 (v : Int32) : v.toInt8.toInt32 = (v <<< ((24 : Int32) &&& 31)) >>> ((24 : Int32) &&& 31) := by
  apply tb
  rw [show ((24 : Int32) &&& 31) = (nI 24 &&& 31) from rfl, shr_bv _ (by decide), shl_bv _ (by decide)]
  show (v.toBitVec.signExtend 8).signExtend 32 = _
  apply BitVec.eq_of_getLsbD_eq
  intro i hi
  rw [BitVec.getLsbD_sshiftRight, BitVec.getLsbD_signExtend, BitVec.msb_eq_getLsbD_last, BitVec.msb_eq_getLsbD_last, BitVec.getLsbD_shiftLeft, BitVec.getLsbD_shiftLeft, BitVec.getLsbD_signExtend, BitVec.getLsbD_signExtend]
  by_cases h : i < 8
  · have e1 : 24 + i < 32 := by omega
    have e2 : 24 + i - 24 = i := by omega
    have e3 : ¬ 32 ≤ i := by omega
    simp [h, hi, e1, e2, e3]
  · have e1 : ¬ 24 + i < 32 := by omega
    have e3 : ¬ 32 ≤ i := by omega
    simp [h, hi, e1, e3]
theorem sx16 (v : Int32) : v.toInt16.toInt32 = (v <<< ((16 : Int32) &&& 31)) >>> ((16 : Int32) &&& 31) := by
  apply tb
  rw [show ((16 : Int32) &&& 31) = (nI 16 &&& 31) from rfl, shr_bv _ (by decide), shl_bv _ (by decide)]
  show (v.toBitVec.signExtend 16).signExtend 32 = _
  apply BitVec.eq_of_getLsbD_eq
  intro i hi
  rw [BitVec.getLsbD_sshiftRight, BitVec.getLsbD_signExtend, BitVec.msb_eq_getLsbD_last, BitVec.msb_eq_getLsbD_last, BitVec.getLsbD_shiftLeft, BitVec.getLsbD_shiftLeft, BitVec.getLsbD_signExtend, BitVec.getLsbD_signExtend]
  by_cases h : i < 16
  · have e1 : 16 + i < 32 := by omega
    have e2 : 16 + i - 16 = i := by omega
    have e3 : ¬ 32 ≤ i := by omega
    simp [h, hi, e1, e2, e3]
  · have e1 : ¬ 16 + i < 32 := by omega
    have e3 : ¬ 32 ≤ i := by omega
    simp [h, hi, e1, e3]
theorem snd8 (v : Int32) : (vp_nar .byte v.toInt8.toInt32) &&& (255 : Int32) = v &&& (255 : Int32) := by
  rw [pk_vb]
  apply tb
  rw [and_bv, and_bv]
  show (v.toBitVec.signExtend 8).signExtend 32 &&& 255#32 = v.toBitVec &&& 255#32
  apply BitVec.eq_of_getLsbD_eq
  intro i hi
  rw [BitVec.getLsbD_and, BitVec.getLsbD_and, b255, BitVec.getLsbD_signExtend, BitVec.getLsbD_signExtend]
  by_cases h : i < 8
  · simp [h, hi]
  · simp [h]
theorem lshr32 (x : Int64) : (jlshr x (32 : Int32)).toBitVec = x.toBitVec.sshiftRight 32 := by
  unfold jlshr
  rw [Int64.toBitVec_shiftRight]
  show x.toBitVec.sshiftRight ((((32 : Int32).toInt64 &&& 63).toBitVec.smod 64).toNat) = _
  rw [show (((32 : Int32).toInt64 &&& 63).toBitVec.smod 64).toNat = 32 from by decide +kernel]
theorem lshl32 (x : Int64) : (jlshl x (32 : Int32)).toBitVec = x.toBitVec <<< 32 := by
  unfold jlshl
  rw [Int64.toBitVec_shiftLeft]
  show x.toBitVec <<< ((((32 : Int32).toInt64 &&& 63).toBitVec.smod 64).toNat) = _
  rw [show (((32 : Int32).toInt64 &&& 63).toBitVec.smod 64).toNat = 32 from by decide +kernel]
theorem lushr32 (x : Int64) : (jlushr x (32 : Int32)).toBitVec = x.toBitVec >>> 32 := by
  unfold jlushr
  show (x.toUInt64 >>> ((32 : Int32).toInt64.toUInt64 &&& Int64.toUInt64 63)).toBitVec = _
  rw [UInt64.toBitVec_shiftRight]
  show x.toBitVec >>> ((((32 : Int32).toInt64.toUInt64 &&& Int64.toUInt64 63).toBitVec % 64).toNat) = _
  rw [show (((32 : Int32).toInt64.toUInt64 &&& Int64.toUInt64 63).toBitVec % 64).toNat = 32 from by decide +kernel]
theorem half_eq (x : Int64) : (jlushr x (32 : Int32)).toInt32 = (jlshr x (32 : Int32)).toInt32 := by
  apply tb
  show (jlushr x (32 : Int32)).toBitVec.signExtend 32 = (jlshr x (32 : Int32)).toBitVec.signExtend 32
  rw [lushr32, lshr32]
  apply BitVec.eq_of_getLsbD_eq
  intro i hi
  rw [BitVec.getLsbD_signExtend, BitVec.getLsbD_signExtend, BitVec.getLsbD_ushiftRight, BitVec.getLsbD_sshiftRight]
  have e1 : 32 + i < 64 := by omega
  have e2 : i < 64 := by omega
  have e3 : ¬ 64 ≤ i := by omega
  simp [hi, e1, e2, e3]
theorem keep_hi (x : Int64) : x &&& (-4294967296 : Int64) = jlshl (jlshr x (32 : Int32)) (32 : Int32) := by
  apply tb64
  rw [lshl32, lshr32]
  show x.toBitVec &&& (-4294967296 : Int64).toBitVec = _
  rw [show (-4294967296 : Int64).toBitVec = 18446744069414584320#64 from by decide]
  apply BitVec.eq_of_getLsbD_eq
  intro i hi
  have hm : (18446744069414584320#64).getLsbD i = !decide (i < 32) := (by decide +kernel : ∀ j : Fin 64, (18446744069414584320#64).getLsbD j.val = !decide (j.val < 32)) ⟨i, hi⟩
  rw [BitVec.getLsbD_and, hm, BitVec.getLsbD_shiftLeft, BitVec.getLsbD_sshiftRight]
  by_cases h : i < 32
  · simp [h]
  · have e1 : 32 + (i - 32) < 64 := by omega
    have e2 : 32 + (i - 32) = i := by omega
    have e3 : ¬ 64 ≤ i - 32 := by omega
    simp [h, hi, e1, e2, e3]
theorem mixed_eq (x : Int64) (u : Bool) (v : Int32) : f_X3_withHalf x u v = f_X5_mixed x u v := by
  unfold f_X3_withHalf f_X5_mixed f_X4_unsigned
  by_cases h : (b2i u) = 0
  · rw [if_pos h, if_pos h, keep_hi]
  · rw [if_neg h, if_neg h, Int64.or_comm]
theorem prod_eq (f a b : Int32) (sz mo : Int32) (F : MS) (hf : mf F = f) (h : vp_in f 8) (h4 : ¬ (4 : Int32) ≤ f) : f_X4_product f a b = f_X5_multiplied sz mo F a b := by
  unfold f_X4_product f_X5_multiplied f_X4_unsigned
  rw [hf]
  obtain ⟨j, hj, rfl⟩ := vp_in_of h (by decide)
  have hj4 : j < 4 := by
    rcases Nat.lt_or_ge j 4 with q | q
    · exact q
    · exact absurd (nI_le q (by omega)) h4
  rcases (show j = 0 ∨ j = 1 ∨ j = 2 ∨ j = 3 by omega) with rfl | rfl | rfl | rfl
  · rw [if_pos (by decide), if_pos (by decide)]
  · rw [if_neg (by decide), if_pos (by decide), if_neg (by decide), if_pos (by decide)]
  · rw [if_neg (by decide), if_neg (by decide), if_pos (by decide), if_neg (by decide), if_neg (by decide), if_pos (by decide)]
  · rw [if_neg (by decide), if_neg (by decide), if_neg (by decide), if_neg (by decide), if_neg (by decide), if_neg (by decide), if_pos (by decide)]
theorem divd_eq (f a b : Int32) (sz mo : Int32) (F : MS) (hf : mf F = f) (h : vp_in f 8) (h4 : (4 : Int32) ≤ f) : f_X4_divided f a b = f_X5_multiplied sz mo F a b := by
  unfold f_X4_divided f_X5_multiplied f_X4_unsigned
  rw [hf]
  obtain ⟨j, hj, rfl⟩ := vp_in_of h (by decide)
  have hj4 : 4 ≤ j := by
    rcases Nat.lt_or_ge j 4 with q | q
    · exact absurd h4 (nI_ge (b := 4) q (by decide))
    · exact q
  rcases (show j = 4 ∨ j = 5 ∨ j = 6 ∨ j = 7 by omega) with rfl | rfl | rfl | rfl
  · rw [if_pos (by decide), if_pos (show (nI 4 &&& (1 : Int32)) = 0 by decide), if_neg (show ¬ nI 4 = (0 : Int32) by decide), if_neg (show ¬ nI 4 = (1 : Int32) by decide), if_neg (show ¬ nI 4 = (2 : Int32) by decide), if_neg (show ¬ nI 4 = (3 : Int32) by decide), if_pos (show nI 4 = (4 : Int32) by decide)]
    by_cases c : b = 0
    · rw [if_pos c, if_pos c]
    · rw [if_neg c, if_neg c, div64]
      by_cases c1 : b = -1
      · rw [if_pos c1, c1, div_m1]
      · rw [if_neg c1]
  · rw [if_pos (by decide), if_neg (show ¬ (nI 5 &&& (1 : Int32)) = 0 by decide), if_neg (show ¬ nI 5 = (0 : Int32) by decide), if_neg (show ¬ nI 5 = (1 : Int32) by decide), if_neg (show ¬ nI 5 = (2 : Int32) by decide), if_neg (show ¬ nI 5 = (3 : Int32) by decide), if_neg (show ¬ nI 5 = (4 : Int32) by decide), if_pos (show nI 5 = (5 : Int32) by decide)]
  · rw [if_neg (show ¬ nI 6 < (6 : Int32) by decide), if_pos (show (nI 6 &&& (1 : Int32)) = 0 by decide), if_neg (show ¬ nI 6 = (0 : Int32) by decide), if_neg (show ¬ nI 6 = (1 : Int32) by decide), if_neg (show ¬ nI 6 = (2 : Int32) by decide), if_neg (show ¬ nI 6 = (3 : Int32) by decide), if_neg (show ¬ nI 6 = (4 : Int32) by decide), if_neg (show ¬ nI 6 = (5 : Int32) by decide), if_pos (show nI 6 = (6 : Int32) by decide)]
    by_cases c : b = 0
    · rw [if_pos c, if_pos c]
    · rw [if_neg c, if_neg c, rem64]
      by_cases c1 : b = -1
      · rw [if_pos c1, c1, rem_m1]
      · rw [if_neg c1]
  · rw [if_neg (show ¬ nI 7 < (6 : Int32) by decide), if_neg (show ¬ (nI 7 &&& (1 : Int32)) = 0 by decide), if_neg (show ¬ nI 7 = (0 : Int32) by decide), if_neg (show ¬ nI 7 = (1 : Int32) by decide), if_neg (show ¬ nI 7 = (2 : Int32) by decide), if_neg (show ¬ nI 7 = (3 : Int32) by decide), if_neg (show ¬ nI 7 = (4 : Int32) by decide), if_neg (show ¬ nI 7 = (5 : Int32) by decide), if_neg (show ¬ nI 7 = (6 : Int32) by decide)]
