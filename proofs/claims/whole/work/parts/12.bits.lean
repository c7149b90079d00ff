/-! bits of 32 and of 64 -/
theorem tb {x y : Int32} (h : x.toBitVec = y.toBitVec) : x = y := Int32.toBitVec_inj.mp h
theorem tb64 {x y : Int64} (h : x.toBitVec = y.toBitVec) : x = y := Int64.toBitVec_inj.mp h
theorem sm32 {n : Nat} (h : n < 32) : ((nI n &&& 31).toBitVec.smod 32).toNat = n := (by decide +kernel : ∀ j : Fin 32, ((nI j.val &&& 31).toBitVec.smod 32).toNat = j.val) ⟨n, h⟩
theorem um32 {n : Nat} (h : n < 32) : (((nI n).toUInt32 &&& Int32.toUInt32 31).toBitVec % 32).toNat = n := (by decide +kernel : ∀ j : Fin 32, (((nI j.val).toUInt32 &&& Int32.toUInt32 31).toBitVec % 32).toNat = j.val) ⟨n, h⟩
theorem shl_bv (x : Int32) {n : Nat} (h : n < 32) : (x <<< (nI n &&& 31)).toBitVec = x.toBitVec <<< n := by
  apply BitVec.eq_of_toNat_eq
  rw [pk_shl x _ n (sm32 h), BitVec.toNat_shiftLeft, Nat.shiftLeft_eq]
theorem ush_bv (x : Int32) {n : Nat} (h : n < 32) : (jushr x (nI n)).toBitVec = x.toBitVec >>> n := by
  apply BitVec.eq_of_toNat_eq
  unfold jushr
  rw [pk_ushr x _ n (um32 h), BitVec.toNat_ushiftRight, Nat.shiftRight_eq_div_pow]
theorem shr_bv (x : Int32) {n : Nat} (h : n < 32) : (x >>> (nI n &&& 31)).toBitVec = x.toBitVec.sshiftRight n := by
  apply BitVec.eq_of_toInt_eq
  rw [BitVec.toInt_sshiftRight]
  exact pk_shr x _ n (sm32 h)
theorem and_bv (x y : Int32) : (x &&& y).toBitVec = x.toBitVec &&& y.toBitVec := rfl
theorem or_bv (x y : Int32) : (x ||| y).toBitVec = x.toBitVec ||| y.toBitVec := rfl
theorem xor_bv (x y : Int32) : (x ^^^ y).toBitVec = x.toBitVec ^^^ y.toBitVec := rfl
/-- a mask's bits end below j -/
theorem msk_hi {w : Nat} (m : BitVec w) (j i : Nat) (hm : m.toNat < 2 ^ j) (h : j ≤ i) : m.getLsbD i = false := by
  rw [← BitVec.testBit_toNat]
  exact Nat.testBit_lt_two_pow (Nat.lt_of_lt_of_le hm (Nat.pow_le_pow_right (by decide) h))
theorem sh_gen (w m : BitVec 32) (k j : Nat) (hm : m.toNat < 2 ^ j) (hkj : k + j ≤ 32) : (w >>> k) &&& m = (w.sshiftRight k) &&& m := by
  apply BitVec.eq_of_getLsbD_eq
  intro i hi
  rw [BitVec.getLsbD_and, BitVec.getLsbD_and, BitVec.getLsbD_ushiftRight, BitVec.getLsbD_sshiftRight]
  by_cases h : i < j
  · have h1 : k + i < 32 := by omega
    have h2 : ¬ 32 ≤ i := by omega
    simp [h1, hi, h2]
  · rw [msk_hi m j i hm (by omega)]
    simp
theorem sh_k (w m : Int32) (k j : Nat) (hm : m.toBitVec.toNat < 2 ^ j) (hkj : k + j ≤ 32) (hk : k < 32) : jushr w (nI k) &&& m = (w >>> (nI k &&& 31)) &&& m := by
  apply tb
  rw [and_bv, and_bv, ush_bv w hk, shr_bv w hk]
  exact sh_gen _ _ k j hm hkj
theorem sh_all (w m : Int32) (k j : Nat) (hm : m.toBitVec.toNat = 2 ^ j - 1) (hkj : k + j = 32) (hk : k < 32) : jushr w (nI k) = (w >>> (nI k &&& 31)) &&& m := by
  have hp : 0 < 2 ^ j := Nat.pos_of_ne_zero (by have := Nat.pow_pos (n := j) (show 0 < 2 by decide); omega)
  rw [← sh_k w m k j (by omega) (by omega) hk]
  apply tb
  rw [and_bv]
  apply BitVec.eq_of_toNat_eq
  rw [BitVec.toNat_and, hm, ush_bv w hk, BitVec.toNat_ushiftRight, Nat.shiftRight_eq_div_pow]
  refine (Nat.and_two_pow_sub_one_of_lt_two_pow ?_).symm
  have h1 := w.toBitVec.isLt
  apply Nat.div_lt_of_lt_mul
  rw [← Nat.pow_add, hkj]
  exact h1
theorem sh_12 (w : Int32) : jushr w (12 : Int32) &&& (7 : Int32) = (w >>> ((12 : Int32) &&& 31)) &&& (7 : Int32) := sh_k w 7 12 3 (by decide) (by decide) (by decide)
theorem sh_15 (w : Int32) : jushr w (15 : Int32) &&& (31 : Int32) = (w >>> ((15 : Int32) &&& 31)) &&& (31 : Int32) := sh_k w 31 15 5 (by decide) (by decide) (by decide)
theorem sh_20 (w : Int32) : jushr w (20 : Int32) &&& (31 : Int32) = (w >>> ((20 : Int32) &&& 31)) &&& (31 : Int32) := sh_k w 31 20 5 (by decide) (by decide) (by decide)
theorem sh_7 (w : Int32) : jushr w (7 : Int32) &&& (31 : Int32) = (w >>> ((7 : Int32) &&& 31)) &&& (31 : Int32) := sh_k w 31 7 5 (by decide) (by decide) (by decide)
theorem sh_7b (w : Int32) : jushr w (7 : Int32) &&& (1 : Int32) = (w >>> ((7 : Int32) &&& 31)) &&& (1 : Int32) := sh_k w 1 7 1 (by decide) (by decide) (by decide)
theorem sh_25b (w : Int32) : jushr w (25 : Int32) &&& (63 : Int32) = (w >>> ((25 : Int32) &&& 31)) &&& (63 : Int32) := sh_k w 63 25 6 (by decide) (by decide) (by decide)
theorem sh_8b (w : Int32) : jushr w (8 : Int32) &&& (15 : Int32) = (w >>> ((8 : Int32) &&& 31)) &&& (15 : Int32) := sh_k w 15 8 4 (by decide) (by decide) (by decide)
theorem sh_20j (w : Int32) : jushr w (20 : Int32) &&& (1 : Int32) = (w >>> ((20 : Int32) &&& 31)) &&& (1 : Int32) := sh_k w 1 20 1 (by decide) (by decide) (by decide)
theorem sh_21j (w : Int32) : jushr w (21 : Int32) &&& (1023 : Int32) = (w >>> ((21 : Int32) &&& 31)) &&& (1023 : Int32) := sh_k w 1023 21 10 (by decide) (by decide) (by decide)
theorem sh_25 (w : Int32) : jushr w (25 : Int32) = (w >>> ((25 : Int32) &&& 31)) &&& (127 : Int32) := sh_all w 127 25 7 (by decide) (by decide) (by decide)
theorem sh_20n (w : Int32) : jushr w (20 : Int32) = (w >>> ((20 : Int32) &&& 31)) &&& (4095 : Int32) := sh_all w 4095 20 12 (by decide) (by decide) (by decide)
/-- adding the top bit is flipping it -/
theorem add_top {w : Nat} (x y : BitVec w) (hy : ∀ i, i < w → y.toNat % 2 ^ i = 0) : x + y = x ^^^ y := by
  apply BitVec.eq_of_getLsbD_eq
  intro i hi
  rw [BitVec.getLsbD_add hi, BitVec.getLsbD_xor]
  have h1 : BitVec.carry i x y false = false := by
    unfold BitVec.carry
    rw [hy i hi]
    have h2 : x.toNat % 2 ^ i < 2 ^ i := Nat.mod_lt _ (Nat.pow_pos (by decide))
    simp only [Bool.toNat_false, Nat.add_zero, ge_iff_le, decide_eq_false_iff_not]
    omega
  rw [h1, Bool.xor_false]
theorem top32 (x : Int32) : x + (-2147483648 : Int32) = x ^^^ (-2147483648 : Int32) := tb (add_top x.toBitVec (-2147483648 : Int32).toBitVec (fun i hi => (by decide +kernel : ∀ j : Fin 32, (-2147483648 : Int32).toBitVec.toNat % 2 ^ j.val = 0) ⟨i, hi⟩))
theorem top64 (x : Int64) : x + (-9223372036854775808 : Int64) = x ^^^ (-9223372036854775808 : Int64) := tb64 (add_top x.toBitVec (-9223372036854775808 : Int64).toBitVec (fun i hi => (by decide +kernel : ∀ j : Fin 64, (-9223372036854775808 : Int64).toBitVec.toNat % 2 ^ j.val = 0) ⟨i, hi⟩))
theorem below_eq (a b : Int32) : f_X4_belowUnsigned a b = f_X5_isBelow a b := by
  unfold f_X4_belowUnsigned f_X5_isBelow f_J6_compareUnsigned_7cf53 f_J6_compare_7cf53
  rw [top32, top32]
  by_cases h : (b ^^^ (-2147483648 : Int32)) ≤ (a ^^^ (-2147483648 : Int32))
  · rw [if_pos h, if_pos h]
    by_cases h2 : (a ^^^ (-2147483648 : Int32)) = (b ^^^ (-2147483648 : Int32))
    · rw [if_pos h2, if_pos (by decide)]
    · rw [if_neg h2, if_pos (by decide)]
  · rw [if_neg h, if_neg h, if_neg (by decide)]
theorem lcmp_lt (x y : Int64) : lg_cmp x y < 0 ↔ ¬ (y < x) ∧ ¬ x = y := by
  unfold lg_cmp
  by_cases h1 : y < x
  · rw [if_pos h1]
    exact ⟨fun h => absurd h (by decide), fun h => absurd h1 h.1⟩
  · by_cases h2 : x = y
    · rw [if_neg h1, if_pos h2]
      exact ⟨fun h => absurd h (by decide), fun h => absurd h2 h.2⟩
    · rw [if_neg h1, if_neg h2]
      exact ⟨fun _ => ⟨h1, h2⟩, fun _ => by decide⟩
theorem due_eq (nW nB : Nat) (sz mo : Int32) (F : MS) (W B : Nat → Int32) (lat : Int32) (ret : Int64) : f_X3_isDue nW nB (mkK F W B lat ret) = f_X5_isDue sz mo F := by
  show (if f_J13_compareUnsigned_74951 (mtime F) (mlimit F) < 0 then false else true) = _
  unfold f_X5_isDue f_J13_compareUnsigned_74951 f_J13_compare_74951
  rw [top64, top64]
  generalize (mtime F ^^^ (-9223372036854775808 : Int64)) = x
  generalize (mlimit F ^^^ (-9223372036854775808 : Int64)) = y
  have hl : (0 ≤ lg_cmp x y) ↔ ¬ lg_cmp x y < 0 := by
    rw [Int32.le_iff_toInt_le, Int32.lt_iff_toInt_lt, Int32.toInt_zero]
    omega
  by_cases h : lg_cmp x y < 0
  · rw [if_neg (fun q => hl.mp q h), if_pos h, if_pos (by decide)]
  · rw [if_pos (hl.mpr h), if_neg h]
    by_cases h2 : lg_cmp x y = 0
    · rw [if_pos h2, if_neg (by decide)]
    · rw [if_neg h2, if_neg (by decide)]
