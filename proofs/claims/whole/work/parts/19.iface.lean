/-! what the law needs of the tie -/
theorem rel_c {nW nB : Nat} {sz mo : Int32} {E : KS} {F : MS} (h : Rel nW nB sz mo E F) : Cst nW nB sz mo := h.1
theorem rel_ks {nW nB : Nat} {sz mo : Int32} {E : KS} {F : MS} (h : Rel nW nB sz mo E F) : ¬ ksent E < 0 := by
  obtain ⟨-, W, B, rfl, -, -, hi⟩ := h
  rw [ltz]
  have := hi.2.2.2.1
  show ¬ (msentMany F).toInt < 0
  omega
theorem rel_ms {nW nB : Nat} {sz mo : Int32} {E : KS} {F : MS} (h : Rel nW nB sz mo E F) : mSnt mo F := by
  obtain ⟨-, W, B, -, -, -, hi⟩ := h
  exact hi.2.2.2
/-- run: out of step and tick -/
theorem oneK_eq (nW nB : Nat) (E : KS) : oneK nW nB E = f_X4_tick nW nB (f_X4_step nW nB E).2 := rfl
theorem rel_one {nW nB : Nat} {sz mo : Int32} {E : KS} {F : MS} (h : Rel nW nB sz mo E F) : Rel nW nB sz mo (oneK nW nB E) (oneM sz mo F) := by
  rw [oneK_eq]
  exact rel_tick (rel_step h).2
theorem rel_it {nW nB : Nat} {sz mo : Int32} : ∀ (j : Nat) {E : KS} {F : MS}, Rel nW nB sz mo E F → Rel nW nB sz mo (itK nW nB j E) (itM sz mo j F)
  | 0, _, _, h => h
  | j + 1, _, _, h => rel_it j (rel_one h)
theorem klatest_one (nW nB : Nat) (E : KS) : klatest (oneK nW nB E) = (f_X4_step nW nB E).1 := rfl
theorem rel_loop {nW nB : Nat} {sz mo : Int32} : ∀ (n d : Nat) {E : KS} {F : MS}, Rel nW nB sz mo E F → ((runK nW nB n d E).1 = (runM sz mo n d 0 F).1 ∧ Rel nW nB sz mo (runK nW nB n d E).2 (runM sz mo n d 0 F).2)
  | 0, d, E, F, h => ⟨rfl, h⟩
  | n + 1, d, E, F, h => by
    unfold runK runM
    rw [if_pos rfl, klatest_one, (rel_step h).1]
    by_cases c1 : (f_X5_step sz mo F).1 = 0
    · rw [if_pos c1, c1]
      exact rel_loop n (d + 1) (rel_one h)
    · rw [if_neg c1]
      have e : runM sz mo n (d + 1) (f_X5_step sz mo F).1 (oneM sz mo F) = (nI (d + 1), oneM sz mo F) := by
        cases n with
        | zero => rfl
        | succ n => unfold runM; rw [if_neg c1]
      rw [e]
      exact ⟨rfl, rel_one h⟩
theorem rel_run {nW nB : Nat} {sz mo : Int32} {E : KS} {F : MS} (h : Rel nW nB sz mo E F) (a : Int32) : (f_X4_run nW nB E a).1 = (f_X5_run sz mo F a).1 ∧ Rel nW nB sz mo (f_X4_run nW nB E a).2 (f_X5_run sz mo F a).2 := by
  unfold f_X4_run f_X5_run
  by_cases c1 : a < 0
  · rw [if_pos c1, if_pos c1]
    exact ⟨rfl, h⟩
  · rw [if_neg c1, if_neg c1]
    by_cases c2 : a ≤ (100000 : Int32)
    · rw [if_pos c2, if_pos c2]
      exact rel_loop _ 0 h
    · rw [if_neg c2, if_neg c2]
      exact ⟨rfl, h⟩
