/-! the tie over peek, poke, load, and over reading and storing n bytes -/
theorem mm1 (F : MS) (a b : Nat → Int32) : mmemory_ (mmemory_ F a) b = mmemory_ F b := rfl
theorem mm2 (F : MS) (a : Nat → Int32) : mmemory (mmemory_ F a) = a := rfl
theorem mk_mem (F : MS) (m W B : Nat → Int32) (lat : Int32) (ret : Int64) : mkK (mmemory_ F m) W B lat ret = mkK F W B lat ret := rfl
theorem put_mk (nW nB : Nat) (F : MS) (W B : Nat → Int32) (lat : Int32) (ret : Int64) {a : Nat} (h : a < 2 ^ 31) (n v : Int32) : f_X1_put nW nB (mkK F W B lat ret) (nI a) n v = mkK F (upd W (a / 4) (insI (W (a / 4)) v (f_X1_mask n) (8 * (a % 4)))) B lat ret := by
  rw [putN _ _ _ h]
  rfl
theorem ix0 {a : Nat} (h : a < 2 ^ 30) : (nI a + (0 : Int32)).toNatClampNeg = a + 0 := by rw [show nI a + (0 : Int32) = nI (a + 0) from nI_add a 0, nI_clamp (by omega)]
theorem ix1 {a : Nat} (h : a < 2 ^ 30) : (nI a + (1 : Int32)).toNatClampNeg = a + 1 := by rw [show nI a + (1 : Int32) = nI (a + 1) from nI_add a 1, nI_clamp (by omega)]
theorem ix2 {a : Nat} (h : a < 2 ^ 30) : (nI a + (2 : Int32)).toNatClampNeg = a + 2 := by rw [show nI a + (2 : Int32) = nI (a + 2) from nI_add a 2, nI_clamp (by omega)]
theorem ix3 {a : Nat} (h : a < 2 ^ 30) : (nI a + (3 : Int32)).toNatClampNeg = a + 3 := by rw [show nI a + (3 : Int32) = nI (a + 3) from nI_add a 3, nI_clamp (by omega)]
theorem e80 : (8 : Int32) * (0 : Int32) = nI (8 * 0) := by decide
theorem e81 : (8 : Int32) * (1 : Int32) = nI (8 * 1) := by decide
theorem e82 : (8 : Int32) * (2 : Int32) = nI (8 * 2) := by decide
theorem e83 : (8 : Int32) * (3 : Int32) = nI (8 * 3) := by decide
/-- byte k of v -/
def byV (v : Int32) (k : Nat) : Int32 := (v >>> (nI (8 * k) &&& 31)) &&& (255 : Int32)
theorem mput1 (sz mo : Int32) (F : MS) {a : Nat} (h : a < 2 ^ 30) (v : Int32) : f_X5_put_1 sz mo F (nI a) v = mmemory_ F (upd (mmemory F) (a + 0) (byV v 0)) := by
  unfold f_X5_put_1 byV
  rw [ix0 h, e80]
theorem mput2 (sz mo : Int32) (F : MS) {a : Nat} (h : a < 2 ^ 30) (v : Int32) : f_X5_put_2 sz mo F (nI a) v = mmemory_ F (upd (upd (mmemory F) (a + 0) (byV v 0)) (a + 1) (byV v 1)) := by
  unfold f_X5_put_2 byV
  rw [ix0 h, ix1 h, e80, e81]
  rfl
theorem mput4 (sz mo : Int32) (F : MS) {a : Nat} (h : a < 2 ^ 30) (v : Int32) : f_X5_put_4 sz mo F (nI a) v = mmemory_ F (upd (upd (upd (upd (mmemory F) (a + 0) (byV v 0)) (a + 1) (byV v 1)) (a + 2) (byV v 2)) (a + 3) (byV v 3)) := by
  unfold f_X5_put_4 byV
  simp only [mm1, mm2]
  rw [ix0 h, ix1 h, ix2 h, ix3 h, e80, e81, e82, e83]
theorem put1_ok {nW : Nat} {W mem : Nat → Int32} (h : MemOk nW W mem) (a : Nat) (v y : Int32) (hy : y.toBitVec = ext8 v.toBitVec 0) : MemOk nW (upd W (a / 4) (insI (W (a / 4)) v (f_X1_mask 1) (8 * (a % 4)))) (upd mem a y) := by
  rw [mask1]
  refine put_ok h a 1 v _ _ (by omega) m255 (by decide) rfl (insI_bv _ _ _ (by omega)) (fun b hb => pk_un (by omega)) (fun j hj => ?_)
  obtain rfl : j = 0 := by omega
  rw [show a + 0 = a from rfl, pk_us]
  exact hy
theorem put2_ok {nW : Nat} {W mem : Nat → Int32} (h : MemOk nW W mem) (a : Nat) (ha : a % 2 = 0) (v : Int32) : MemOk nW (upd W (a / 4) (insI (W (a / 4)) v (f_X1_mask 2) (8 * (a % 4)))) (upd (upd mem (a + 0) (byV v 0)) (a + 1) (byV v 1)) := by
  rw [mask2]
  refine put_ok h a 2 v _ _ (by omega) m65535 (by decide) rfl (insI_bv _ _ _ (by omega)) (fun b hb => ?_) (fun j hj => ?_)
  · rw [pk_un (by omega), pk_un (by omega)]
  · rcases (show j = 0 ∨ j = 1 by omega) with rfl | rfl
    · rw [pk_un (by omega), pk_us]
      exact sb_bv v (by decide)
    · rw [pk_us]
      exact sb_bv v (by decide)
theorem put4_ok {nW : Nat} {W mem : Nat → Int32} (h : MemOk nW W mem) (a : Nat) (ha : a % 4 = 0) (v : Int32) : MemOk nW (upd W (a / 4) (insI (W (a / 4)) v (f_X1_mask 4) (8 * (a % 4)))) (upd (upd (upd (upd mem (a + 0) (byV v 0)) (a + 1) (byV v 1)) (a + 2) (byV v 2)) (a + 3) (byV v 3)) := by
  rw [mask4]
  refine put_ok h a 4 v _ _ (by omega) mAll (by decide) rfl (insI_bv _ _ _ (by omega)) (fun b hb => ?_) (fun j hj => ?_)
  · rw [pk_un (by omega), pk_un (by omega), pk_un (by omega), pk_un (by omega)]
  · rcases (show j = 0 ∨ j = 1 ∨ j = 2 ∨ j = 3 by omega) with rfl | rfl | rfl | rfl
    · rw [pk_un (by omega), pk_un (by omega), pk_un (by omega), pk_us]
      exact sb_bv v (by decide)
    · rw [pk_un (by omega), pk_un (by omega), pk_us]
      exact sb_bv v (by decide)
    · rw [pk_un (by omega), pk_us]
      exact sb_bv v (by decide)
    · rw [pk_us]
      exact sb_bv v (by decide)
theorem get1_eq (nW nB : Nat) (sz mo : Int32) (F : MS) (W B : Nat → Int32) (lat : Int32) (ret : Int64) (hm : MemOk nW W (mmemory F)) {a : Nat} (ha : a + 1 ≤ 4 * nW) (h : a < 2 ^ 30) : f_X1_get nW nB (mkK F W B lat ret) (nI a) 1 = f_X5_get_1 sz mo F (nI a) := by
  rw [getN _ _ _ (by omega), mask1]
  unfold f_X5_get_1
  rw [ix0 h, hm (a + 0) (by omega)]
  show bytK W a = ((0 : Int32) <<< ((8 : Int32) &&& 31)) ||| bytK W a
  rw [show ((0 : Int32) <<< ((8 : Int32) &&& 31)) = 0 from by decide, Int32.zero_or]
theorem get2_eq (nW nB : Nat) (sz mo : Int32) (F : MS) (W B : Nat → Int32) (lat : Int32) (ret : Int64) (hm : MemOk nW W (mmemory F)) {a : Nat} (ha : a + 2 ≤ 4 * nW) (h : a < 2 ^ 30) (h2 : a % 2 = 0) : f_X1_get nW nB (mkK F W B lat ret) (nI a) 2 = f_X5_get_2 sz mo F (nI a) := by
  rw [getN _ _ _ (by omega), mask2]
  unfold f_X5_get_2
  rw [ix0 h, ix1 h, hm (a + 0) (by omega), hm (a + 1) (by omega)]
  apply tb
  rw [and_bv, ush_bv _ (by omega), or_bv, show ((8 : Int32) &&& 31) = (nI 8 &&& 31) from rfl, shl_bv _ (by decide), or_bv, shl_bv _ (by decide), bytK_bv, bytK_bv]
  rw [show (a + 1) / 4 = a / 4 from by omega, show (a + 1) % 4 = a % 4 + 1 from by omega, show 8 * (a % 4 + 1) = 8 * (a % 4) + 8 from by omega]
  exact (half_bytes _ _).symm
theorem get4_eq (nW nB : Nat) (sz mo : Int32) (F : MS) (W B : Nat → Int32) (lat : Int32) (ret : Int64) (hm : MemOk nW W (mmemory F)) {a : Nat} (ha : a + 4 ≤ 4 * nW) (h : a < 2 ^ 30) (h2 : a % 4 = 0) : f_X1_get nW nB (mkK F W B lat ret) (nI a) 4 = f_X5_get_4 sz mo F (nI a) := by
  rw [getN _ _ _ (by omega), mask4]
  unfold f_X5_get_4
  rw [ix0 h, ix1 h, ix2 h, ix3 h, hm (a + 0) (by omega), hm (a + 1) (by omega), hm (a + 2) (by omega), hm (a + 3) (by omega)]
  apply tb
  rw [and_bv, ush_bv _ (by omega), or_bv, show ((8 : Int32) &&& 31) = (nI 8 &&& 31) from rfl, shl_bv _ (by decide), or_bv, shl_bv _ (by decide), or_bv, shl_bv _ (by decide), or_bv, shl_bv _ (by decide), bytK_bv, bytK_bv, bytK_bv, bytK_bv]
  rw [show (a + 0) / 4 = a / 4 from rfl, show (a + 1) / 4 = a / 4 from by omega, show (a + 2) / 4 = a / 4 from by omega, show (a + 3) / 4 = a / 4 from by omega, show (a + 0) % 4 = 0 from by omega, show (a + 1) % 4 = 1 from by omega, show (a + 2) % 4 = 2 from by omega, show (a + 3) % 4 = 3 from by omega, h2]
  refine Eq.trans ?_ (word_bytes _).symm
  show ((W (a / 4)).toBitVec >>> 0) &&& (-1 : Int32).toBitVec = _
  rw [BitVec.ushiftRight_zero, show (-1 : Int32).toBitVec = BitVec.allOnes 32 from by decide, BitVec.and_allOnes]
theorem here1 {nW nB : Nat} {sz mo : Int32} (hc : Cst nW nB sz mo) (E : KS) (F : MS) (a : Int32) : f_X1_holds nW nB E a = f_X5_isThere sz mo F a (1 : Int32) := by
  rw [Bool.eq_iff_iff, holdsN hc.1, thereN hc 1 (by decide) (by decide)]
  exact ⟨fun ⟨j, h, e⟩ => ⟨j, by omega, e⟩, fun ⟨j, h, e⟩ => ⟨j, by omega, e⟩⟩
theorem rel_peek {nW nB : Nat} {sz mo : Int32} {E : KS} {F : MS} (h : Rel nW nB sz mo E F) (a : Int32) : f_X4_peek nW nB E a = f_X5_peek sz mo F a := by
  obtain ⟨hc, W, B, rfl, hm, hs, hi⟩ := h
  unfold f_X4_peek f_X5_peek
  rw [here1 hc _ F a]
  by_cases c : (b2i (f_X5_isThere sz mo F a (1 : Int32))) = 0
  · rw [if_pos c, if_pos c]
  · rw [if_neg c, if_neg c]
    obtain ⟨j, hj, rfl⟩ := (thereN hc 1 (by decide) (by decide)).mp (b2i_n0.mp c)
    have h3 := hc.1.1
    rw [getN _ _ _ (by omega), mask1, nI_clamp (by omega), hm j (by omega)]
    rfl
theorem rel_mem {nW nB : Nat} {sz mo : Int32} {F : MS} {B : Nat → Int32} (hc : Cst nW nB sz mo) (hs : SntOk B (msent F) (msentMany F)) (hi : MInv mo F) {W' mem' : Nat → Int32} (hm : MemOk nW W' mem') : Rel nW nB sz mo (mkK F W' B (mlatest F) (mretired F)) (mmemory_ F mem') := ⟨hc, W', B, rfl, hm, hs, hi⟩
theorem rel_poke {nW nB : Nat} {sz mo : Int32} {E : KS} {F : MS} (h : Rel nW nB sz mo E F) (a v : Int32) : (f_X4_poke nW nB E a v).1 = (f_X5_poke sz mo F a v).1 ∧ Rel nW nB sz mo (f_X4_poke nW nB E a v).2 (f_X5_poke sz mo F a v).2 := by
  have h0 := h
  obtain ⟨hc, W, B, rfl, hm, hs, hi⟩ := h
  unfold f_X4_poke f_X5_poke
  rw [here1 hc _ F a]
  by_cases c : (b2i (f_X5_isThere sz mo F a (1 : Int32))) = 0
  · rw [if_pos c, if_pos c]
    exact ⟨rfl, h0⟩
  · rw [if_neg c, if_neg c]
    obtain ⟨j, hj, rfl⟩ := (thereN hc 1 (by decide) (by decide)).mp (b2i_n0.mp c)
    have h3 := hc.1.1
    rw [put_mk _ _ _ _ _ _ _ (by omega), nI_clamp (by omega)]
    exact ⟨rfl, rel_mem hc hs hi (put1_ok hm j v _ (ext8_0 v))⟩
theorem lb (v : Int32) {k : Nat} (hk : k < 4) : (byV v k).toBitVec = ext8 (jushr v (nI (8 * k))).toBitVec 0 := by
  rw [← ext8_0, ub_bv v hk]
  exact sb_bv v hk
theorem rel_load {nW nB : Nat} {sz mo : Int32} {E : KS} {F : MS} (h : Rel nW nB sz mo E F) (a v : Int32) : (f_X4_load nW nB E a v).1 = (f_X5_load sz mo F a v).1 ∧ Rel nW nB sz mo (f_X4_load nW nB E a v).2 (f_X5_load sz mo F a v).2 := by
  have h0 := h
  obtain ⟨hc, W, B, rfl, hm, hs, hi⟩ := h
  have h3 := hc.1.1
  have k0 := @holdsN nW nB hc.1 (mkK F W B (mlatest F) (mretired F)) a
  have k3 := @holdsN nW nB hc.1 (mkK F W B (mlatest F) (mretired F)) (a + (3 : Int32))
  have t4 := @thereN nW nB sz mo hc F a (4 : Int32) 4 (by decide) (by decide)
  have tk : f_X5_isThere sz mo F a (4 : Int32) = true ↔ f_X1_holds nW nB (mkK F W B (mlatest F) (mretired F)) a = true ∧ f_X1_holds nW nB (mkK F W B (mlatest F) (mretired F)) (a + (3 : Int32)) = true := by
    rw [t4, k0, k3]
    constructor
    · rintro ⟨j, hj, rfl⟩
      exact ⟨⟨j, by omega, rfl⟩, ⟨j + 3, by omega, nI_add j 3⟩⟩
    · rintro ⟨⟨j, hj, rfl⟩, ⟨i, hi2, e⟩⟩
      rw [show nI j + (3 : Int32) = nI (j + 3) from nI_add j 3, nI_eq (by omega) (by omega)] at e
      exact ⟨j, by omega, rfl⟩
  unfold f_X4_load f_X5_load
  by_cases c : (b2i (f_X5_isThere sz mo F a (4 : Int32))) = 0
  · rw [if_pos c]
    by_cases c1 : (b2i (f_X1_holds nW nB (mkK F W B (mlatest F) (mretired F)) a)) = 0
    · rw [if_pos c1]
      exact ⟨rfl, h0⟩
    · rw [if_neg c1]
      by_cases c2 : (b2i (f_X1_holds nW nB (mkK F W B (mlatest F) (mretired F)) (a + (3 : Int32)))) = 0
      · rw [if_pos c2]
        exact ⟨rfl, h0⟩
      · have := tk.mpr ⟨b2i_n0.mp c1, b2i_n0.mp c2⟩
        rw [b2i_0, this] at c
        cases c
  · have q := tk.mp (b2i_n0.mp c)
    rw [if_neg c, if_neg (b2i_n0.mpr q.1), if_neg (b2i_n0.mpr q.2)]
    obtain ⟨j, hj, rfl⟩ := t4.mp (b2i_n0.mp c)
    refine ⟨rfl, ?_⟩
    show Rel nW nB sz mo (f_X1_put nW nB (f_X1_put nW nB (f_X1_put nW nB (f_X1_put nW nB (mkK F W B (mlatest F) (mretired F)) (nI j + (0 : Int32)) 1 (jushr v ((8 : Int32) * (0 : Int32)))) (nI j + (1 : Int32)) 1 (jushr v ((8 : Int32) * (1 : Int32)))) (nI j + (2 : Int32)) 1 (jushr v ((8 : Int32) * (2 : Int32)))) (nI j + (3 : Int32)) 1 (jushr v ((8 : Int32) * (3 : Int32)))) (f_X5_put_4 sz mo F (nI j) v)
    rw [mput4 sz mo F (by omega), show nI j + (0 : Int32) = nI (j + 0) from nI_add j 0, show nI j + (1 : Int32) = nI (j + 1) from nI_add j 1, show nI j + (2 : Int32) = nI (j + 2) from nI_add j 2, show nI j + (3 : Int32) = nI (j + 3) from nI_add j 3, e80, e81, e82, e83]
    rw [put_mk _ _ _ _ _ _ _ (by omega), put_mk _ _ _ _ _ _ _ (by omega), put_mk _ _ _ _ _ _ _ (by omega), put_mk _ _ _ _ _ _ _ (by omega)]
    exact rel_mem hc hs hi (put1_ok (put1_ok (put1_ok (put1_ok hm (j + 0) _ _ (lb v (by decide))) (j + 1) _ _ (lb v (by decide))) (j + 2) _ _ (lb v (by decide))) (j + 3) _ _ (lb v (by decide)))
