/-! reckoning, reading, storing, the system's words, control registers -/
section OPS2
variable {nW nB : Nat} {sz mo : Int32} {F : MS} {W B : Nat → Int32} {lat w : Int32}
theorem shr20_31 {w : Int32} : ((w >>> ((20 : Int32) &&& 31)) &&& (31 : Int32)) &&& 31 = ((w >>> ((20 : Int32) &&& 31)) &&& 31) := by
  rw [Int32.and_assoc, Int32.and_self]
theorem rk_eq (sz mo : Int32) (F : MS) (a b : Int32) : f_X4_reckoned (mf F) false a b = f_X5_reckon sz mo F a b := by
  unfold f_X4_reckoned f_X5_reckon
  rw [below_eq]
  rfl
theorem o_by (hm : MemOk nW W (mmemory F)) (hs : SntOk B (msent F) (msentMany F)) (hi : MInv mo F) (hd : Dec w F) : ResOk nW mo (mretired F) lat (f_X4_reckonWithNumber nW nB (mkK F W B lat (mretired F)) w) (fin (f_X5_reckonBy sz mo F (f_X5_immediate sz mo F))) := by
  obtain ⟨hw, hdd, hf, hss, ht, hg, hn⟩ := hd
  have il := o_ill (nB := nB) (sz := sz) (lat := lat) hm hs hi hw
  have rt := fun v => o_ret (nB := nB) (sz := sz) (lat := lat) (w := w) hm hs hi hdd hn v
  unfold f_X4_reckonWithNumber f_X5_reckonBy
  rw [f_eq hf, g_eq hg, a_eq nW nB W B lat _ hss, show f_X4_offsetI w = f_X5_immediate sz mo F from by unfold f_X4_offsetI f_X5_immediate; rw [hw]]
  by_cases c1 : mf F = (1 : Int32)
  · rw [if_pos c1, if_pos c1]
    by_cases c2 : mg F = 0
    · rw [if_pos c2, if_pos c2, if_neg (show ¬ mf F = (5 : Int32) by rw [c1]; decide)]
      have e : f_X4_reckoned (mf F) false (mx F (ms F).toNatClampNeg) (f_X5_immediate sz mo F) = (mx F (ms F).toNatClampNeg) <<< ((mt F) &&& 31) := by
        unfold f_X4_reckoned f_X5_immediate
        rw [c1, if_neg (by decide), if_pos rfl, hw, ht]
      rw [e]
      exact rt _
    · rw [if_neg c2, if_neg c2]
      exact il
  · rw [if_neg c1, if_neg c1]
    by_cases c5 : mf F = (5 : Int32)
    · rw [if_pos c5, if_pos c5]
      by_cases c2 : mg F = 0
      · rw [if_pos c2, if_pos c2, if_neg (show ¬ mg F = (32 : Int32) by rw [c2]; decide)]
        have e : f_X4_reckoned (mf F) false (mx F (ms F).toNatClampNeg) (f_X5_immediate sz mo F) = jushr (mx F (ms F).toNatClampNeg) (mt F) := by
          unfold f_X4_reckoned f_X5_immediate
          rw [c5, if_neg (by decide), if_neg (by decide), if_neg (by decide), if_neg (by decide), if_neg (by decide), if_pos rfl, if_pos (by decide), hw, ht]
        rw [e]
        exact rt _
      · rw [if_neg c2, if_neg c2]
        by_cases c3 : mg F = (32 : Int32)
        · rw [if_pos c3, if_pos c3]
          have e : f_X4_reckoned (mf F) true (mx F (ms F).toNatClampNeg) (f_X5_immediate sz mo F) = (mx F (ms F).toNatClampNeg) >>> ((mt F) &&& 31) := by
            unfold f_X4_reckoned f_X5_immediate
            rw [c5, if_neg (by decide), if_neg (by decide), if_neg (by decide), if_neg (by decide), if_neg (by decide), if_pos rfl, if_neg (by decide), hw, ht]
          rw [e]
          exact rt _
        · rw [if_neg c3, if_neg c3]
          exact il
    · rw [if_neg c5, if_neg c5, rk_eq sz mo]
      exact rt _
theorem o_two (hm : MemOk nW W (mmemory F)) (hs : SntOk B (msent F) (msentMany F)) (hi : MInv mo F) (hd : Dec w F) : ResOk nW mo (mretired F) lat (f_X4_reckonWithRegister nW nB (mkK F W B lat (mretired F)) w) (fin (f_X5_reckonTwo sz mo F)) := by
  obtain ⟨hw, hdd, hf, hss, ht, hg, hn⟩ := hd
  have hfi : vp_in (mf F) 8 := by rw [hf]; exact f_in
  have il := o_ill (nB := nB) (sz := sz) (lat := lat) hm hs hi hw
  have rt := fun v => o_ret (nB := nB) (sz := sz) (lat := lat) (w := w) hm hs hi hdd hn v
  unfold f_X4_reckonWithRegister f_X5_reckonTwo
  rw [f_eq hf, g_eq hg, a_eq nW nB W B lat _ hss, b_eq nW nB W B lat _ ht]
  by_cases c1 : mg F = (1 : Int32)
  · rw [if_pos c1, if_pos c1]
    by_cases c4 : (4 : Int32) ≤ mf F
    · rw [if_pos c4, divd_eq (mf F) _ _ sz mo F rfl hfi c4]
      exact rt _
    · rw [if_neg c4, prod_eq (mf F) _ _ sz mo F rfl hfi c4]
      exact rt _
  · rw [if_neg c1, if_neg c1]
    by_cases c2 : mg F = 0
    · rw [if_pos c2, if_pos c2, if_neg (show ¬ mg F = (32 : Int32) by rw [c2]; decide), rk_eq sz mo]
      exact rt _
    · rw [if_neg c2, if_neg c2]
      by_cases c3 : mg F = (32 : Int32)
      · rw [if_pos c3, if_pos c3]
        by_cases c0 : mf F = 0
        · rw [if_pos c0, if_pos c0]
          have e : ∀ a b : Int32, f_X4_reckoned (mf F) true a b = a - b := fun a b => by
            unfold f_X4_reckoned
            rw [c0, if_pos rfl, if_neg (by decide)]
          rw [e]
          exact rt _
        · rw [if_neg c0, if_neg c0]
          by_cases c5 : mf F = (5 : Int32)
          · rw [if_pos c5, if_pos c5]
            have e : ∀ a b : Int32, f_X4_reckoned (mf F) true a b = a >>> ((b &&& (31 : Int32)) &&& 31) := fun a b => by
              unfold f_X4_reckoned
              rw [c5, if_neg (by decide), if_neg (by decide), if_neg (by decide), if_neg (by decide), if_neg (by decide), if_pos rfl, if_neg (by decide)]
            rw [e]
            exact rt _
          · rw [if_neg c5, if_neg c5]
            exact il
      · rw [if_neg c3, if_neg c3]
        exact il
theorem o_sys (hm : MemOk nW W (mmemory F)) (hs : SntOk B (msent F) (msentMany F)) (hi : MInv mo F) (hd : Dec w F) : ResOk nW mo (mretired F) lat (f_X4_system nW nB (mkK F W B lat (mretired F)) w) (fin (f_X5_system sz mo F)) := by
  obtain ⟨hw, hdd, hf, hss, ht, hg, hn⟩ := hd
  have il := o_ill (nB := nB) (sz := sz) (lat := lat) hm hs hi hw
  unfold f_X4_system f_X5_system
  rw [hw]
  by_cases c1 : w = (115 : Int32)
  · rw [if_pos c1, if_pos c1]
    exact o_trap hm hs hi _ _
  rw [if_neg c1, if_neg c1]
  by_cases c2 : w = (1048691 : Int32)
  · rw [if_pos c2, if_pos c2]
    exact o_trap hm hs hi _ _
  rw [if_neg c2, if_neg c2]
  by_cases c3 : w = (273678451 : Int32)
  · rw [if_pos c3, if_pos c3]
    exact o_at (F := mwaits_ F true) hm hs hi hn (al4 hi.2.1)
  rw [if_neg c3, if_neg c3]
  by_cases c4 : w = (807403635 : Int32)
  · rw [if_pos c4, if_pos c4]
    exact o_at (F := mmpie_ (mmie_ (mnext_ F (mmepc F)) (mmpie F)) true) hm hs ⟨hi.1, hi.2.1, hi.2.2.1, hi.2.2.2⟩ rfl hi.2.2.1
  rw [if_neg c4, if_neg c4]
  exact il
theorem list_eq (n : Int32) : f_X5_isListed n = f_X0_lists n := by
  unfold f_X5_isListed f_X0_lists
  by_cases h1 : n = 768
  · rw [if_pos h1, if_pos h1]
  rw [if_neg h1, if_neg h1]
  by_cases h2 : n = 769
  · rw [if_pos h2, if_pos h2]
  rw [if_neg h2, if_neg h2]
  by_cases h3 : n = 772
  · rw [if_pos h3, if_pos h3]
  rw [if_neg h3, if_neg h3]
  by_cases h4 : n = 773
  · rw [if_pos h4, if_pos h4]
  rw [if_neg h4, if_neg h4]
  have e : ∀ {x y : Int32}, x.toInt = y.toInt → x = y := fun h => Int32.toInt_inj.mp h
  by_cases h5 : n < 832
  · have q : n.toInt < 832 := Int32.lt_iff_toInt_lt.mp h5
    have ne : ∀ k : Int32, 832 ≤ k.toInt → ¬ n = k := fun k hk h => by rw [h] at q; omega
    rw [if_pos h5, if_neg (ne 832 (by decide)), if_neg (ne 833 (by decide)), if_neg (ne 834 (by decide)), if_neg (ne 835 (by decide)), if_neg (ne 836 (by decide))]
  · have q : ¬ n.toInt < 832 := fun h => h5 (Int32.lt_iff_toInt_lt.mpr h)
    rw [if_neg h5]
    by_cases h6 : n ≤ 836
    · have q2 : n.toInt ≤ 836 := Int32.le_iff_toInt_le.mp h6
      rw [if_pos h6]
      rcases (show n.toInt = 832 ∨ n.toInt = 833 ∨ n.toInt = 834 ∨ n.toInt = 835 ∨ n.toInt = 836 by omega) with q3 | q3 | q3 | q3 | q3
      · obtain rfl : n = 832 := e q3
        rfl
      · obtain rfl : n = 833 := e q3
        rfl
      · obtain rfl : n = 834 := e q3
        rfl
      · obtain rfl : n = 835 := e q3
        rfl
      · obtain rfl : n = 836 := e q3
        rfl
    · have q2 : ¬ n.toInt ≤ 836 := fun h => h6 (Int32.le_iff_toInt_le.mpr h)
      have ne : ∀ k : Int32, k.toInt ≤ 836 → ¬ n = k := fun k hk h => by rw [h] at q2; omega
      rw [if_neg h6, if_neg (ne 832 (by decide)), if_neg (ne 833 (by decide)), if_neg (ne 834 (by decide)), if_neg (ne 835 (by decide)), if_neg (ne 836 (by decide))]
theorem set_eq (nW nB : Nat) (sz mo : Int32) (F : MS) (W B : Nat → Int32) (lat : Int32) (ret : Int64) (n v : Int32) : f_X0_set nW nB (mkK F W B lat ret) n v = mkK (f_X5_setCsr sz mo F n v) W B lat ret := by
  unfold f_X0_set f_X5_setCsr
  by_cases h1 : n = 768
  · rw [if_pos h1, if_pos h1]
    by_cases h2 : (v &&& (8 : Int32)) = 0
    · rw [if_pos h2, if_pos h2]
      by_cases h3 : (v &&& (128 : Int32)) = 0
      · rw [if_pos h3, if_pos h3]; rfl
      · rw [if_neg h3, if_neg h3]; rfl
    · rw [if_neg h2, if_neg h2]
      by_cases h3 : (v &&& (128 : Int32)) = 0
      · rw [if_pos h3, if_pos h3]; rfl
      · rw [if_neg h3, if_neg h3]; rfl
  rw [if_neg h1, if_neg h1]
  by_cases h2 : n = 772
  · rw [if_pos h2, if_pos h2]; rfl
  rw [if_neg h2, if_neg h2]
  by_cases h3 : n = 773
  · rw [if_pos h3, if_pos h3]; rfl
  rw [if_neg h3, if_neg h3]
  by_cases h4 : n = 832
  · rw [if_pos h4, if_pos h4]; rfl
  rw [if_neg h4, if_neg h4]
  by_cases h5 : n = 833
  · rw [if_pos h5, if_pos h5]; rfl
  rw [if_neg h5, if_neg h5]
  by_cases h6 : n = 834
  · rw [if_pos h6, if_pos h6]; rfl
  rw [if_neg h6, if_neg h6]
  by_cases h7 : n = 835
  · rw [if_pos h7, if_pos h7]; rfl
  rw [if_neg h7, if_neg h7]
/-- what a write of a control register leaves -/
theorem set_keeps (sz mo : Int32) (F : MS) (n v : Int32) (hi : MInv mo F) : MInv mo (f_X5_setCsr sz mo F n v) ∧ mmemory (f_X5_setCsr sz mo F n v) = mmemory F ∧ msent (f_X5_setCsr sz mo F n v) = msent F ∧ msentMany (f_X5_setCsr sz mo F n v) = msentMany F ∧ md (f_X5_setCsr sz mo F n v) = md F ∧ mnext (f_X5_setCsr sz mo F n v) = mnext F ∧ mpc (f_X5_setCsr sz mo F n v) = mpc F ∧ mretired (f_X5_setCsr sz mo F n v) = mretired F := by
  unfold f_X5_setCsr
  by_cases h1 : n = 768
  · rw [if_pos h1]
    by_cases h2 : (v &&& (8 : Int32)) = 0
    · rw [if_pos h2]
      by_cases h3 : (v &&& (128 : Int32)) = 0
      · rw [if_pos h3]; exact ⟨hi, rfl, rfl, rfl, rfl, rfl, rfl, rfl⟩
      · rw [if_neg h3]; exact ⟨hi, rfl, rfl, rfl, rfl, rfl, rfl, rfl⟩
    · rw [if_neg h2]
      by_cases h3 : (v &&& (128 : Int32)) = 0
      · rw [if_pos h3]; exact ⟨hi, rfl, rfl, rfl, rfl, rfl, rfl, rfl⟩
      · rw [if_neg h3]; exact ⟨hi, rfl, rfl, rfl, rfl, rfl, rfl, rfl⟩
  rw [if_neg h1]
  by_cases h2 : n = 772
  · rw [if_pos h2]; exact ⟨hi, rfl, rfl, rfl, rfl, rfl, rfl, rfl⟩
  rw [if_neg h2]
  by_cases h3 : n = 773
  · rw [if_pos h3]; exact ⟨hi, rfl, rfl, rfl, rfl, rfl, rfl, rfl⟩
  rw [if_neg h3]
  by_cases h4 : n = 832
  · rw [if_pos h4]; exact ⟨hi, rfl, rfl, rfl, rfl, rfl, rfl, rfl⟩
  rw [if_neg h4]
  by_cases h5 : n = 833
  · rw [if_pos h5]; exact ⟨⟨hi.1, hi.2.1, alm4 v, hi.2.2.2⟩, rfl, rfl, rfl, rfl, rfl, rfl, rfl⟩
  rw [if_neg h5]
  by_cases h6 : n = 834
  · rw [if_pos h6]; exact ⟨hi, rfl, rfl, rfl, rfl, rfl, rfl, rfl⟩
  rw [if_neg h6]
  by_cases h7 : n = 835
  · rw [if_pos h7]; exact ⟨hi, rfl, rfl, rfl, rfl, rfl, rfl, rfl⟩
  rw [if_neg h7]
  exact ⟨hi, rfl, rfl, rfl, rfl, rfl, rfl, rfl⟩
theorem o_set (hm : MemOk nW W (mmemory F)) (hs : SntOk B (msent F) (msentMany F)) (hi : MInv mo F) (hdd : md F = ((w >>> ((7 : Int32) &&& 31)) &&& (31 : Int32))) (hn : mnext F = mpc F + (4 : Int32)) (n x v : Int32) : ResOk nW mo (mretired F) lat (f_X4_retire nW nB (f_X0_set nW nB (mkK F W B lat (mretired F)) n x) w v) (fin (f_X5_become sz mo (f_X5_setCsr sz mo F n x) v)) := by
  rw [set_eq nW nB sz mo]
  obtain ⟨k1, k2, k3, k4, k5, k6, k7, k8⟩ := set_keeps sz mo F n x hi
  generalize f_X5_setCsr sz mo F n x = F2 at k1 k2 k3 k4 k5 k6 k7 k8 ⊢
  rw [← k8]
  exact o_ret (by rw [k2]; exact hm) (by rw [k3, k4]; exact hs) k1 (by rw [k5]; exact hdd) (by rw [k6, k7]; exact hn) v
theorem o_ctl (hm : MemOk nW W (mmemory F)) (hs : SntOk B (msent F) (msentMany F)) (hi : MInv mo F) (hd : Dec w F) (hf0 : ¬ mf F = 0) : ResOk nW mo (mretired F) lat (f_X4_control nW nB (mkK F W B lat (mretired F)) w) (fin (f_X5_control sz mo F)) := by
  obtain ⟨hw, hdd, hf, hss, ht, hg, hn⟩ := hd
  have hfi : vp_in (mf F) 8 := by rw [hf]; exact f_in
  have il := o_ill (nB := nB) (sz := sz) (lat := lat) hm hs hi hw
  have rt := fun v => o_ret (nB := nB) (sz := sz) (lat := lat) (w := w) hm hs hi hdd hn v
  have st := fun n x v => o_set (nB := nB) (sz := sz) (lat := lat) (w := w) hm hs hi hdd hn n x v
  have f4 : (mf F &&& (3 : Int32)) = 0 ↔ mf F = (4 : Int32) := by
    obtain ⟨j, hj, e⟩ := vp_in_of hfi (by decide)
    rw [e] at hf0 ⊢
    exact (by decide +kernel : ∀ j : Fin 8, ¬ nI j.val = 0 → ((nI j.val &&& (3 : Int32)) = 0 ↔ nI j.val = (4 : Int32))) ⟨j, hj⟩ hf0
  unfold f_X4_control f_X5_control
  rw [f_eq hf, s_eq hss, a_eq nW nB W B lat _ hss, sh_20n, cget_eq nW nB sz mo, hw]
  generalize ((w >>> ((20 : Int32) &&& 31)) &&& (4095 : Int32)) = n
  rw [list_eq]
  by_cases c1 : (mf F &&& (3 : Int32)) = (1 : Int32)
  · rw [if_pos c1, if_pos c1]
    by_cases c0 : (mf F &&& (3 : Int32)) = 0
    · rw [if_pos c0, if_pos (f4.mp c0)]
      exact il
    rw [if_neg c0, if_neg (fun q => c0 (f4.mpr q))]
    by_cases c2 : (b2i (f_X0_lists n)) = 0
    · rw [if_pos c2, if_pos c2]
      exact il
    rw [if_neg c2, if_neg c2]
    by_cases c3 : n < (3072 : Int32)
    · rw [if_pos c3, if_pos c3]
      by_cases c4 : (4 : Int32) ≤ mf F
      · rw [if_pos c4, if_pos c4]
        exact st _ _ _
      · rw [if_neg c4, if_neg c4]
        exact st _ _ _
    · rw [if_neg c3, if_neg c3]
      exact il
  rw [if_neg c1, if_neg c1]
  by_cases cs : ms F = 0
  · rw [if_pos cs, if_pos cs]
    by_cases c0 : (mf F &&& (3 : Int32)) = 0
    · rw [if_pos c0, if_pos (f4.mp c0)]
      exact il
    rw [if_neg c0, if_neg (fun q => c0 (f4.mpr q))]
    by_cases c2 : (b2i (f_X0_lists n)) = 0
    · rw [if_pos c2, if_pos c2]
      exact il
    rw [if_neg c2, if_neg c2]
    by_cases c4 : (4 : Int32) ≤ mf F
    · rw [if_pos c4, if_pos c4]
      exact rt _
    · rw [if_neg c4, if_neg c4]
      exact rt _
  rw [if_neg cs, if_neg cs]
  by_cases c0 : (mf F &&& (3 : Int32)) = 0
  · rw [if_pos c0, if_pos (f4.mp c0)]
    exact il
  rw [if_neg c0, if_neg (fun q => c0 (f4.mpr q))]
  by_cases c2 : (b2i (f_X0_lists n)) = 0
  · rw [if_pos c2, if_pos c2]
    exact il
  rw [if_neg c2, if_neg c2]
  by_cases c3 : n < (3072 : Int32)
  · rw [if_pos c3, if_pos c3]
    by_cases c4 : (4 : Int32) ≤ mf F
    · rw [if_pos c4, if_pos c4]
      by_cases c5 : (mf F &&& (3 : Int32)) = (2 : Int32)
      · rw [if_pos c5, if_pos c5]
        exact st _ _ _
      · rw [if_neg c5, if_neg c5]
        exact st _ _ _
    · rw [if_neg c4, if_neg c4]
      by_cases c5 : (mf F &&& (3 : Int32)) = (2 : Int32)
      · rw [if_pos c5, if_pos c5]
        exact st _ _ _
      · rw [if_neg c5, if_neg c5]
        exact st _ _ _
  · rw [if_neg c3, if_neg c3]
    exact il
end OPS2
