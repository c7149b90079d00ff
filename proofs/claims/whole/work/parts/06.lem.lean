/-! what the contracts ask of numbers: places within their rows, divisors that aren't 0 -/
theorem shr2 (a : Int32) : (a >>> ((2 : Int32) &&& 31)).toInt = a.toInt / 4 := by
  rw [pk_shr a _ 2 (by decide), Int.shiftRight_eq_div_pow]
  rfl
theorem ltz (a : Int32) : a < 0 ↔ a.toInt < 0 := by rw [Int32.lt_iff_toInt_lt, Int32.toInt_zero]
theorem add_sm {a k : Int32} (h0 : 0 ≤ a.toInt) (h1 : a.toInt < 2 ^ 30) (h2 : 0 ≤ k.toInt) (h3 : k.toInt < 2 ^ 30) : (a + k).toInt = a.toInt + k.toInt := by
  rw [Int32.toInt_add, Int.bmod_eq_of_le (by omega) (by omega)]
theorem holds_iff {nW nB : Nat} (hk : KOk nW nB) {E : KS} {a : Int32} : f_X1_holds nW nB E a = true ↔ 0 ≤ a.toInt ∧ a.toInt / 4 < nW := by
  have h1 := ltz a
  have h2 : nI nW ≤ (a >>> ((2 : Int32) &&& 31)) ↔ (nW : Int) ≤ a.toInt / 4 := by rw [Int32.le_iff_toInt_le, shr2, nI_toInt (by omega)]
  unfold f_X1_holds
  by_cases c1 : a < 0
  · rw [if_pos c1]
    have := h1.mp c1
    exact ⟨fun h => (by cases h), fun h => (by omega)⟩
  · rw [if_neg c1]
    by_cases c2 : nI nW ≤ (a >>> ((2 : Int32) &&& 31))
    · rw [if_pos c2]
      have := h2.mp c2
      exact ⟨fun h => (by cases h), fun h => (by omega)⟩
    · rw [if_neg c2]
      rw [h1] at c1
      rw [h2] at c2
      exact ⟨fun _ => ⟨by omega, by omega⟩, fun _ => rfl⟩
theorem in_of_holds {nW nB : Nat} (hk : KOk nW nB) {E : KS} {a : Int32} (h : ¬ (b2i (f_X1_holds nW nB E a)) = 0) : vp_in (a >>> ((2 : Int32) &&& 31)) nW := by
  have h1 := (holds_iff hk).mp (b2i_n0.mp h)
  rw [vp_in_iff, shr2]
  omega
theorem in_of_load {nW nB : Nat} (hk : KOk nW nB) {E : KS} {a k : Int32} (h : ¬ (b2i (f_X1_holds nW nB E a)) = 0) (h3 : ¬ (b2i (f_X1_holds nW nB E (a + (3 : Int32)))) = 0) (k0 : 0 ≤ k.toInt) (k3 : k.toInt ≤ 3) : vp_in ((a + k) >>> ((2 : Int32) &&& 31)) nW := by
  have h1 := (holds_iff hk).mp (b2i_n0.mp h)
  have h2 := (holds_iff hk).mp (b2i_n0.mp h3)
  rw [add_sm (by omega) (by omega) (by decide) (by decide), show (3 : Int32).toInt = 3 from by decide] at h2
  rw [vp_in_iff, shr2, add_sm (by omega) (by omega) (by omega) (by omega)]
  omega
theorem in_of_lt {i : Int32} {n : Nat} (h0 : ¬ i < 0) (h : i < nI n) (hn : n ≤ 4096) : vp_in i n := by
  rw [Int32.lt_iff_toInt_lt, nI_toInt (by omega)] at h
  rw [ltz] at h0
  rw [vp_in_iff]
  omega
theorem in_of_nle {i : Int32} {n : Nat} (h0 : ¬ i < 0) (h : ¬ nI n ≤ i) (hn : n ≤ 4096) : vp_in i n := by
  rw [Int32.le_iff_toInt_le, nI_toInt (by omega)] at h
  rw [ltz] at h0
  rw [vp_in_iff]
  omega
theorem i2l_ne {a : Int32} (h : ¬ a = 0) : ¬ a.toInt64 = 0 := by
  intro q
  apply h
  have h1 : a.toInt64.toInt = (0 : Int64).toInt := by rw [q]
  rw [Int32.toInt_toInt64] at h1
  exact Int32.toInt_inj.mp h1
theorem uns_nat (a : Int32) : (a.toInt64 &&& (4294967295 : Int64)).toBitVec.toNat = a.toBitVec.toNat := by
  have h : (a.toInt64 &&& (4294967295 : Int64)).toBitVec = a.toBitVec.setWidth 64 := by
    apply BitVec.eq_of_getLsbD_eq
    intro i hi
    have e1 : (a.toInt64 &&& (4294967295 : Int64)).toBitVec = a.toBitVec.signExtend 64 &&& (4294967295#64) := rfl
    rw [e1, BitVec.getLsbD_and, BitVec.getLsbD_signExtend, BitVec.getLsbD_setWidth]
    by_cases h2 : i < 32
    · rw [if_pos h2]
      have : (4294967295#64).getLsbD i = true := by
        have := (by decide +kernel : ∀ j : Fin 32, (4294967295#64).getLsbD j.val = true) ⟨i, h2⟩
        exact this
      rw [this]
      simp [hi]
    · have h3 : (4294967295#64).getLsbD i = false := by
        have := (by decide +kernel : ∀ j : Fin 64, 32 ≤ j.val → (4294967295#64).getLsbD j.val = false) ⟨i, hi⟩ (by show 32 ≤ i; omega)
        exact this
      rw [h3, BitVec.getLsbD_of_ge _ _ (by omega)]
      simp
  rw [h, BitVec.toNat_setWidth]
  exact Nat.mod_eq_of_lt (by have := a.toBitVec.isLt; omega)
theorem msk_ne {a : Int32} (h : ¬ a = 0) : ¬ (a.toInt64 &&& (4294967295 : Int64)) = 0 := by
  intro q
  apply h
  have h1 := uns_nat a
  rw [q] at h1
  have h2 : a.toBitVec = 0#32 := BitVec.eq_of_toNat_eq (by rw [← h1]; rfl)
  exact Int32.toBitVec_inj.mp h2
theorem uns_ne {a : Int32} (h : ¬ a = 0) : ¬ f_X4_unsigned a = 0 := msk_ne h
theorem there_iff {sz mo : Int32} (hk : MOk sz mo) {E : MS} {a b : Int32} (hb : 0 ≤ b.toInt ∧ b.toInt ≤ 4) : f_X5_isThere sz mo E a b = true ↔ 0 ≤ a.toInt ∧ a.toInt + b.toInt ≤ sz.toInt := by
  have h1 := ltz a
  have hsb : (sz - b).toInt = sz.toInt - b.toInt := by
    rw [Int32.toInt_sub, Int.bmod_eq_of_le (by omega) (by omega)]
  have h2 : a ≤ sz - b ↔ a.toInt + b.toInt ≤ sz.toInt := by
    rw [Int32.le_iff_toInt_le, hsb]
    omega
  have h3 : sz - b < a ↔ ¬ a.toInt + b.toInt ≤ sz.toInt := by
    rw [Int32.lt_iff_toInt_lt, hsb]
    omega
  unfold f_X5_isThere
  by_cases c1 : a < 0
  · rw [if_pos c1]
    have := h1.mp c1
    exact ⟨fun h => (by cases h), fun h => (by omega)⟩
  · rw [if_neg c1]
    by_cases c2 : a ≤ sz - b
    · have c3 : ¬ sz - b < a := fun h => (h3.mp h) (h2.mp c2)
      first | rw [if_pos c2] | rw [if_neg c3]
      rw [h1] at c1
      exact ⟨fun _ => ⟨by omega, h2.mp c2⟩, fun _ => rfl⟩
    · have c3 : sz - b < a := h3.mpr (fun h => c2 (h2.mpr h))
      first | rw [if_neg c2] | rw [if_pos c3]
      exact ⟨fun h => (by cases h), fun h => absurd (h2.mpr h.2) c2⟩
theorem in_of_there {sz mo : Int32} (hk : MOk sz mo) {E : MS} {a b k : Int32} (h : ¬ (b2i (f_X5_isThere sz mo E a b)) = 0) (hb : (0 ≤ b.toInt ∧ b.toInt ≤ 4) ∧ 0 ≤ k.toInt) (hkb : k.toInt < b.toInt) : vp_in (a + k) 65536 := by
  have h1 := (there_iff hk hb.1).mp (b2i_n0.mp h)
  rw [vp_in_iff, add_sm (by omega) (by omega) (by omega) (by omega)]
  omega
theorem in_of_there0 {sz mo : Int32} (hk : MOk sz mo) {E : MS} {a : Int32} (h : ¬ (b2i (f_X5_isThere sz mo E a (1 : Int32))) = 0) : vp_in a 65536 := by
  have h1 := (there_iff hk (by decide)).mp (b2i_n0.mp h)
  rw [show (1 : Int32).toInt = 1 from by decide] at h1
  rw [vp_in_iff]
  omega
theorem rd_b {f : Int32} (h : vp_in f 8) (h3 : ¬ f = (3 : Int32)) (h5 : f ≤ (5 : Int32)) : ((1 : Int32) <<< ((f &&& (3 : Int32)) &&& 31)) = (1 : Int32) ∨ ((1 : Int32) <<< ((f &&& (3 : Int32)) &&& 31)) = (2 : Int32) ∨ ((1 : Int32) <<< ((f &&& (3 : Int32)) &&& 31)) = (4 : Int32) := by
  obtain ⟨j, hj, rfl⟩ := vp_in_of h (by decide)
  exact (by decide +kernel : ∀ j : Fin 8, ¬ nI j.val = (3 : Int32) → nI j.val ≤ (5 : Int32) → ((1 : Int32) <<< ((nI j.val &&& (3 : Int32)) &&& 31)) = (1 : Int32) ∨ ((1 : Int32) <<< ((nI j.val &&& (3 : Int32)) &&& 31)) = (2 : Int32) ∨ ((1 : Int32) <<< ((nI j.val &&& (3 : Int32)) &&& 31)) = (4 : Int32)) ⟨j, hj⟩ h3 h5
theorem st_b {f : Int32} (h : vp_in f 8) (h2 : f ≤ (2 : Int32)) : ((1 : Int32) <<< (f &&& 31)) = (1 : Int32) ∨ ((1 : Int32) <<< (f &&& 31)) = (2 : Int32) ∨ ((1 : Int32) <<< (f &&& 31)) = (4 : Int32) := by
  obtain ⟨j, hj, rfl⟩ := vp_in_of h (by decide)
  exact (by decide +kernel : ∀ j : Fin 8, nI j.val ≤ (2 : Int32) → ((1 : Int32) <<< (nI j.val &&& 31)) = (1 : Int32) ∨ ((1 : Int32) <<< (nI j.val &&& 31)) = (2 : Int32) ∨ ((1 : Int32) <<< (nI j.val &&& 31)) = (4 : Int32)) ⟨j, hj⟩ h2
theorem in_of_snt {sz mo : Int32} (hk : MOk sz mo) {E : MS} (hs : mSnt mo E) (h : ¬ (msentMany E) = mo) : vp_in (msentMany E) 4096 := by
  have : (msentMany E).toInt ≠ mo.toInt := fun q => h (Int32.toInt_inj.mp q)
  rw [vp_in_iff]
  omega
theorem in_of_out {sz mo : Int32} (hk : MOk sz mo) {E : MS} (hs : mSnt mo E) {i : Int32} (h0 : ¬ i < 0) (h : ¬ (msentMany E) ≤ i) : vp_in i 4096 := by
  rw [Int32.le_iff_toInt_le] at h
  rw [ltz] at h0
  rw [vp_in_iff]
  omega
theorem md_setCsr' {sz mo : Int32} {E : MS} {n v : Int32} : md (f_X5_setCsr sz mo E n v) = md E := by
  unfold f_X5_setCsr
  repeat' split
  all_goals rfl
theorem md_setCsr {sz mo : Int32} {E : MS} {n v : Int32} (h : vp_in (md E) 32) : vp_in (md (f_X5_setCsr sz mo E n v)) 32 := by
  rw [md_setCsr']
  exact h
theorem dec_ok {E : MS} {w d f s t g n : Int32} (hd : vp_in d 32) (hf : vp_in f 8) (hs : vp_in s 32) (ht : vp_in t 32) : mDec (mnext_ (mg_ (mt_ (ms_ (mf_ (md_ (mword_ E w) d) f) s) t) g) n) := ⟨hd, hs, ht, hf⟩
theorem mSnt_of {mo : Int32} {E E' : MS} (e : msentMany E' = msentMany E) (h : mSnt mo E) : mSnt mo E' := by
  show 0 ≤ (msentMany E').toInt ∧ (msentMany E').toInt ≤ mo.toInt
  rw [e]
  exact h
