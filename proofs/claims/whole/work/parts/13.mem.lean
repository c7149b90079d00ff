/-! memory: words on one side, bytes on the other -/
def ext8 (x : BitVec 32) (t : Nat) : BitVec 32 := (x >>> t) &&& 255#32
def insB (W v M : BitVec 32) (s : Nat) : BitVec 32 := (W &&& ~~~(M <<< s)) ||| ((v <<< s) &&& (M <<< s))
theorem b255 (i : Nat) : (255#32).getLsbD i = decide (i < 8) := by
  by_cases h : i < 8
  · rw [decide_eq_true h]
    exact (by decide +kernel : ∀ j : Fin 8, (255#32).getLsbD j.val = true) ⟨i, h⟩
  · rw [decide_eq_false h]
    exact msk_hi (255#32) 8 i (by decide) (by omega)
theorem ext_in (W v M : BitVec 32) (s n t : Nat) (hM : ∀ i, i < n → M.getLsbD i = true) (hsn : s + n ≤ 32) (h1 : s ≤ t) (h2 : t + 8 ≤ s + n) : ext8 (insB W v M s) t = ext8 v (t - s) := by
  apply BitVec.eq_of_getLsbD_eq
  intro i hi
  unfold ext8 insB
  simp only [BitVec.getLsbD_and, BitVec.getLsbD_or, BitVec.getLsbD_not, BitVec.getLsbD_ushiftRight, BitVec.getLsbD_shiftLeft, b255]
  by_cases h : i < 8
  · have e1 : t + i < 32 := by omega
    have e2 : ¬ t + i < s := by omega
    have e3 : M.getLsbD (t + i - s) = true := hM _ (by omega)
    have e4 : t + i - s = t - s + i := by omega
    rw [e3]
    simp [h, e1, e2, e4]
  · simp [h]
theorem ext_out (W v M : BitVec 32) (s n t : Nat) (hM : M.toNat < 2 ^ n) (h2 : t + 8 ≤ s ∨ s + n ≤ t) : ext8 (insB W v M s) t = ext8 W t := by
  apply BitVec.eq_of_getLsbD_eq
  intro i hi
  unfold ext8 insB
  simp only [BitVec.getLsbD_and, BitVec.getLsbD_or, BitVec.getLsbD_not, BitVec.getLsbD_ushiftRight, BitVec.getLsbD_shiftLeft, b255]
  by_cases h : i < 8
  · have e3 : (decide (t + i < 32) && !decide (t + i < s) && M.getLsbD (t + i - s)) = false := by
      rcases h2 with q | q
      · have : t + i < s := by omega
        simp [this]
      · rw [msk_hi M n (t + i - s) hM (by omega)]
        simp
    rw [e3]
    by_cases e1 : t + i < 32
    · simp [e1]
    · have : W.getLsbD (t + i) = false := BitVec.getLsbD_of_ge _ _ (by omega)
      simp [this]
  · simp [h]
theorem bytK_bv (W : Nat → Int32) (a : Nat) : (bytK W a).toBitVec = ext8 (W (a / 4)).toBitVec (8 * (a % 4)) := by
  unfold bytK ext8
  rw [and_bv, ush_bv _ (by omega)]
  rfl
/-- n bytes of v come to the address a: the words, and the bytes -/
theorem put_ok {nW : Nat} {W mem W' mem' : Nat → Int32} (h : MemOk nW W mem) (a n : Nat) (v X : Int32) (M : BitVec 32) (hn : a % 4 + n ≤ 4) (hM1 : ∀ i, i < 8 * n → M.getLsbD i = true) (hM2 : M.toNat < 2 ^ (8 * n)) (hW : W' = upd W (a / 4) X) (hX : X.toBitVec = insB (W (a / 4)).toBitVec v.toBitVec M (8 * (a % 4))) (hm : ∀ b, b < a ∨ a + n ≤ b → mem' b = mem b) (hv : ∀ j, j < n → (mem' (a + j)).toBitVec = ext8 v.toBitVec (8 * j)) : MemOk nW W' mem' := by
  intro b hb
  apply tb
  rw [bytK_bv, hW]
  by_cases hw : b / 4 = a / 4
  · rw [hw, pk_us, hX]
    by_cases hin : a ≤ b ∧ b < a + n
    · obtain ⟨j, rfl⟩ : ∃ j, b = a + j := ⟨b - a, by omega⟩
      rw [hv j (by omega), ext_in _ _ _ (8 * (a % 4)) (8 * n) _ hM1 (by omega) (by omega) (by omega)]
      congr 1
      omega
    · rw [hm b (by omega), ext_out _ _ _ (8 * (a % 4)) (8 * n) _ hM2 (by omega), h b hb, bytK_bv, hw]
  · rw [pk_un hw, hm b (by omega), h b hb, bytK_bv]
theorem holdsN {nW nB : Nat} (hk : KOk nW nB) {E : KS} {a : Int32} : f_X1_holds nW nB E a = true ↔ ∃ j : Nat, j < 4 * nW ∧ a = nI j := by
  rw [holds_iff hk]
  constructor
  · intro h
    obtain ⟨j, hj, rfl⟩ := nI_of (x := a) (by rw [ltz]; omega)
    rw [nI_toInt hj] at h
    exact ⟨j, by omega, rfl⟩
  · rintro ⟨j, hj, rfl⟩
    rw [nI_toInt (by omega)]
    omega
theorem thereN {nW nB : Nat} {sz mo : Int32} (hc : Cst nW nB sz mo) {F : MS} {a b : Int32} (n : Nat) (hb : b.toInt = n) (hn : n ≤ 4) : f_X5_isThere sz mo F a b = true ↔ ∃ j : Nat, j + n ≤ 4 * nW ∧ a = nI j := by
  rw [there_iff hc.2.1 (by omega), hb]
  have h1 := hc.2.2.1
  have h2 := hc.1.1
  constructor
  · intro h
    obtain ⟨j, hj, rfl⟩ := nI_of (x := a) (by rw [ltz]; omega)
    rw [nI_toInt hj] at h
    exact ⟨j, by omega, rfl⟩
  · rintro ⟨j, hj, rfl⟩
    rw [nI_toInt (by omega)]
    omega
theorem shiftN {a : Nat} (h : a < 2 ^ 31) : f_X1_shift (nI a) = nI (8 * (a % 4)) := by
  unfold f_X1_shift
  rw [pk_andN (by omega) (m := 3) 2 (by decide)]
  rw [show (8 : Int32) = nI 8 from rfl, pk_mul, Nat.mul_comm]
theorem idxN {a : Nat} (h : a < 2 ^ 31) : ((nI a) >>> ((2 : Int32) &&& 31)).toNatClampNeg = a / 4 := by
  rw [pk_shrN h _ 2 (by decide), nI_clamp (by omega)]
theorem mask1 : f_X1_mask (1 : Int32) = 255 := by decide +kernel
theorem mask2 : f_X1_mask (2 : Int32) = 65535 := by decide +kernel
theorem mask4 : f_X1_mask (4 : Int32) = -1 := by decide +kernel
theorem getN (nW nB : Nat) (E : KS) {a : Nat} (h : a < 2 ^ 31) (n : Int32) : f_X1_get nW nB E (nI a) n = jushr (kwords E (a / 4)) (nI (8 * (a % 4))) &&& f_X1_mask n := by
  unfold f_X1_get
  rw [idxN h, shiftN h]
/-- the word that a put makes -/
def insI (w v M : Int32) (s : Nat) : Int32 := (w &&& ((M <<< (nI s &&& 31)) ^^^ (-1 : Int32))) ||| ((v <<< (nI s &&& 31)) &&& (M <<< (nI s &&& 31)))
theorem insI_bv (w v M : Int32) {s : Nat} (h : s < 32) : (insI w v M s).toBitVec = insB w.toBitVec v.toBitVec M.toBitVec s := by
  unfold insI insB
  rw [or_bv, and_bv, and_bv, xor_bv, shl_bv _ h, shl_bv _ h, show (-1 : Int32).toBitVec = BitVec.allOnes 32 from by decide, BitVec.xor_allOnes]
theorem putN (nW nB : Nat) (E : KS) {a : Nat} (h : a < 2 ^ 31) (n v : Int32) : f_X1_put nW nB E (nI a) n v = kwords_ E (upd (kwords E) (a / 4) (insI (kwords E (a / 4)) v (f_X1_mask n) (8 * (a % 4)))) := by
  unfold f_X1_put insI
  rw [idxN h, shiftN h]
theorem m255 : ∀ i, i < 8 * 1 → ((255 : Int32).toBitVec).getLsbD i = true := fun i hi => (by decide +kernel : ∀ j : Fin 8, ((255 : Int32).toBitVec).getLsbD j.val = true) ⟨i, by omega⟩
theorem m65535 : ∀ i, i < 8 * 2 → ((65535 : Int32).toBitVec).getLsbD i = true := fun i hi => (by decide +kernel : ∀ j : Fin 16, ((65535 : Int32).toBitVec).getLsbD j.val = true) ⟨i, by omega⟩
theorem mAll : ∀ i, i < 8 * 4 → ((-1 : Int32).toBitVec).getLsbD i = true := fun i hi => (by decide +kernel : ∀ j : Fin 32, ((-1 : Int32).toBitVec).getLsbD j.val = true) ⟨i, by omega⟩
/-- byte k of v, as the reference puts it -/
theorem sb_bv (v : Int32) {k : Nat} (hk : k < 4) : ((v >>> (nI (8 * k) &&& 31)) &&& (255 : Int32)).toBitVec = ext8 v.toBitVec (8 * k) := by
  unfold ext8
  rw [and_bv, shr_bv v (by omega)]
  exact (sh_gen v.toBitVec 255#32 (8 * k) 8 (by decide) (by omega)).symm
theorem ub_bv (v : Int32) {k : Nat} (hk : k < 4) : (jushr v (nI (8 * k)) &&& (255 : Int32)).toBitVec = ext8 v.toBitVec (8 * k) := by
  unfold ext8
  rw [and_bv, ush_bv v (by omega)]
  rfl
theorem ext8_0 (v : Int32) : (v &&& (255 : Int32)).toBitVec = ext8 v.toBitVec 0 := by
  unfold ext8
  rw [and_bv]
  rfl
/-- a word out of its bytes, half of one likewise -/
theorem word_bytes (x : BitVec 32) : (((((((0#32 <<< 8) ||| ext8 x 24) <<< 8) ||| ext8 x 16) <<< 8) ||| ext8 x 8) <<< 8) ||| ext8 x 0 = x := by
  apply BitVec.eq_of_getLsbD_eq
  intro i hi
  unfold ext8
  simp only [BitVec.getLsbD_and, BitVec.getLsbD_or, BitVec.getLsbD_ushiftRight, BitVec.getLsbD_shiftLeft, b255, BitVec.getLsbD_zero]
  by_cases h0 : i < 8
  · simp [h0, hi]
  · by_cases h1 : i < 16
    · have e1 : i - 8 < 8 := by omega
      have e2 : 8 + (i - 8) = i := by omega
      have e3 : i - 8 < 32 := by omega
      simp [h0, hi, e1, e2, e3]
    · by_cases h2 : i < 24
      · have e0 : ¬ i - 8 < 8 := by omega
        have e1 : i - 8 - 8 < 8 := by omega
        have e2 : 16 + (i - 8 - 8) = i := by omega
        have e3 : i - 8 < 32 := by omega
        have e4 : i - 8 - 8 < 32 := by omega
        simp [h0, hi, e0, e1, e2, e3, e4]
      · have e0 : ¬ i - 8 < 8 := by omega
        have e5 : ¬ i - 8 - 8 < 8 := by omega
        have e1 : i - 8 - 8 - 8 < 8 := by omega
        have e2 : 24 + (i - 8 - 8 - 8) = i := by omega
        have e3 : i - 8 < 32 := by omega
        have e4 : i - 8 - 8 < 32 := by omega
        have e6 : i - 8 - 8 - 8 < 32 := by omega
        simp [h0, hi, e0, e1, e2, e3, e4, e5, e6]
theorem half_bytes (x : BitVec 32) (s : Nat) : ((((0#32 <<< 8) ||| ext8 x (s + 8)) <<< 8) ||| ext8 x s) = (x >>> s) &&& 65535#32 := by
  have b16 : ∀ i, (65535#32).getLsbD i = decide (i < 16) := fun i => by
    by_cases h : i < 16
    · rw [decide_eq_true h]
      exact (by decide +kernel : ∀ j : Fin 16, (65535#32).getLsbD j.val = true) ⟨i, h⟩
    · rw [decide_eq_false h]
      exact msk_hi (65535#32) 16 i (by decide) (by omega)
  apply BitVec.eq_of_getLsbD_eq
  intro i hi
  unfold ext8
  simp only [BitVec.getLsbD_and, BitVec.getLsbD_or, BitVec.getLsbD_ushiftRight, BitVec.getLsbD_shiftLeft, b255, b16, BitVec.getLsbD_zero]
  by_cases h0 : i < 8
  · have : i < 16 := by omega
    simp [h0, hi, this]
  · by_cases h1 : i < 16
    · have e1 : i - 8 < 8 := by omega
      have e2 : s + 8 + (i - 8) = s + i := by omega
      have e3 : i - 8 < 32 := by omega
      simp [h0, h1, hi, e1, e2, e3]
    · have e1 : ¬ i - 8 < 8 := by omega
      simp [h0, h1, e1]
