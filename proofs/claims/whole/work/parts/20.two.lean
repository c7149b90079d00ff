/-! two worlds side by side -/
section TWO
variable {p : Program} {l : Launch} {e : Env} {R : Room} {s : State} {m : MethodId} {args : Array Value} {below : List Frame} {meth : Method} {c : Code} {H H0 : Heap} {locs : List Loc} {cells slots : Nat} {Q : State → Prop}
variable {pc : Nat} {ls : Array Slot} {rest st : List Value}
variable {D : va_G} {A : Nat → Prop} {wa wb w1 : va_W}
theorem sp_P (h : va_P D vwCl (wa ++ wb) H) : va_P D vwCl wa H ∧ va_P D vwCl wb H := by
  refine ⟨fun k q hk => h k q ?_, fun k q hk => h (wa.length + k) q ?_⟩
  · rw [List.getElem?_append_left (List.getElem?_eq_some_iff.mp hk).1]
    exact hk
  · rw [List.getElem?_append_right (by omega), Nat.add_sub_cancel_left]
    exact hk
theorem sp_D (h : va_D A (wa ++ wb)) : va_D A wa ∧ va_D A wb ∧ ∀ (i j : Nat) (x y : Nat × va_E), wa[i]? = some x → wb[j]? = some y → x.1 ≠ y.1 := by
  have hl : ∀ {k : Nat} {q : Nat × va_E}, wa[k]? = some q → (wa ++ wb)[k]? = some q := fun {k q} hk => by
    rw [List.getElem?_append_left (List.getElem?_eq_some_iff.mp hk).1]
    exact hk
  have hr : ∀ {k : Nat} {q : Nat × va_E}, wb[k]? = some q → (wa ++ wb)[wa.length + k]? = some q := fun {k q} hk => by
    rw [List.getElem?_append_right (by omega), Nat.add_sub_cancel_left]
    exact hk
  refine ⟨⟨fun i j x y hi hj hxy => h.1 i j x y (hl hi) (hl hj) hxy, fun k q hk => h.2 k q (hl hk)⟩, ⟨fun i j x y hi hj hxy => ?_, fun k q hk => h.2 _ q (hr hk)⟩, fun i j x y hi hj hxy => ?_⟩
  · have := h.1 _ _ x y (hr hi) (hr hj) hxy
    omega
  · have h1 := h.1 _ _ x y (hl hi) (hr hj) hxy
    have h2 := (List.getElem?_eq_some_iff.mp hi).1
    omega
theorem jn_L {A0 : Nat → Prop} {H1 : Heap} (hP : va_P D vwCl (wa ++ wb) H) (hD : va_D A0 (wa ++ wb)) (hk : ∀ q : Nat, q < H.size → ¬ va_A wa H.size q → H1[q]? = H[q]?) (hF : ∀ q, va_A wa H.size q → A0 q) (hP1 : va_P D vwCl w1 H1) (hD1 : va_D (va_A wa H.size) w1) : va_P D vwCl (w1 ++ wb) H1 ∧ va_D A0 (w1 ++ wb) := by
  obtain ⟨hPa, hPb⟩ := sp_P hP
  obtain ⟨hDa, hDb, hx⟩ := sp_D hD
  have ap : ∀ (k : Nat) (q : Nat × va_E), wb[k]? = some q → q.1 < H.size ∧ ¬ va_A wa H.size q.1 := fun k q hq => by
    have hl := (hPb k q hq).lt
    refine ⟨hl, fun h => ?_⟩
    rcases h with ⟨k2, e2, h⟩ | h
    · exact hx k2 k _ q h hq rfl
    · omega
  refine ⟨va_P.app hP1 (fun k q hq => (hPb k q hq).kept (hk q.1 (ap k q hq).1 (ap k q hq).2)), va_D.app (hD1.weaken (fun k q _ h => hF q.1 h)) hDb (fun i j x y h1 h2 h3 => ?_)⟩
  exact (ap j y h2).2 (by rw [← h3]; exact hD1.2 i x h1)
theorem jn_R {A0 : Nat → Prop} {H1 : Heap} (hP : va_P D vwCl (wa ++ wb) H) (hD : va_D A0 (wa ++ wb)) (hk : ∀ q : Nat, q < H.size → ¬ va_A wb H.size q → H1[q]? = H[q]?) (hF : ∀ q, va_A wb H.size q → A0 q) (hP1 : va_P D vwCl w1 H1) (hD1 : va_D (va_A wb H.size) w1) : va_P D vwCl (wa ++ w1) H1 ∧ va_D A0 (wa ++ w1) := by
  obtain ⟨hPa, hPb⟩ := sp_P hP
  obtain ⟨hDa, hDb, hx⟩ := sp_D hD
  have ap : ∀ (k : Nat) (q : Nat × va_E), wa[k]? = some q → q.1 < H.size ∧ ¬ va_A wb H.size q.1 := fun k q hq => by
    have hl := (hPa k q hq).lt
    refine ⟨hl, fun h => ?_⟩
    rcases h with ⟨k2, e2, h⟩ | h
    · exact hx k k2 q _ hq h rfl
    · omega
  refine ⟨va_P.app (fun k q hq => (hPa k q hq).kept (hk q.1 (ap k q hq).1 (ap k q hq).2)) hP1, va_D.app hDa (hD1.weaken (fun k q _ h => hF q.1 h)) (fun i j x y h1 h2 h3 => ?_)⟩
  exact (ap i x h1).2 (by rw [h3]; exact hD1.2 j y h2)
theorem tw_freeL {wc : va_W} (hD : va_D A wc) (hS : va_S A H0 H locs) (hA : ∀ q, H0.size ≤ q → A q) : ∀ q, va_A wc H.size q → A q := va_free hD hS hA (List.range wc.length) (rg_all wc)
theorem goL_i {rv : Int32} {a : Array Value} (hr : va_Run p l e R s m args below meth c H locs cells slots 0 0 (F0 m pc ls st) rest (QcI D wa w1 rv H.size a) (va_A wa H.size)) (hP : va_P D vwCl (wa ++ wb) H) (hD : va_D A (wa ++ wb)) (hS : va_S A H0 H locs) (hA : ∀ q, H0.size ≤ q → A q) (kk : ∀ (H1 : Heap) (locs1 : List Loc), va_P D vwCl (w1 ++ wb) H1 → va_D A (w1 ++ wb) → va_S A H0 H1 locs1 → W p l e R s m args below meth c H1 locs1 cells slots Q (F0 m (pc + 3) ls (.int rv :: rest))) : W p l e R s m args below meth c H locs cells slots Q (F0 m pc ls st) := by
  have hF := tw_freeL (sp_D hD).1 hS hA
  refine va_calli hr hS (fun q _ h => hF q h) hF (fun r u t H1 locs1 ht hvm hw hB hz1 hk1 hS1 => ?_)
  subst hw
  obtain ⟨hP1, hD1⟩ := hB
  rw [ht] at hP1
  obtain ⟨h1, h2⟩ := jn_L hP hD hk1 hF hP1 hD1
  exact kk H1 locs1 h1 h2 hS1
theorem goL_l {rv : Int64} {a : Array Value} (hr : va_Run p l e R s m args below meth c H locs cells slots 0 0 (F0 m pc ls st) rest (QcL D wa w1 rv H.size a) (va_A wa H.size)) (hP : va_P D vwCl (wa ++ wb) H) (hD : va_D A (wa ++ wb)) (hS : va_S A H0 H locs) (hA : ∀ q, H0.size ≤ q → A q) (kk : ∀ (H1 : Heap) (locs1 : List Loc), va_P D vwCl (w1 ++ wb) H1 → va_D A (w1 ++ wb) → va_S A H0 H1 locs1 → W p l e R s m args below meth c H1 locs1 cells slots Q (F0 m (pc + 3) ls (.long rv :: rest))) : W p l e R s m args below meth c H locs cells slots Q (F0 m pc ls st) := by
  have hF := tw_freeL (sp_D hD).1 hS hA
  refine va_calll hr hS (fun q _ h => hF q h) hF (fun r u t H1 locs1 ht hvm hw hB hz1 hk1 hS1 => ?_)
  subst hw
  obtain ⟨hP1, hD1⟩ := hB
  rw [ht] at hP1
  obtain ⟨h1, h2⟩ := jn_L hP hD hk1 hF hP1 hD1
  exact kk H1 locs1 h1 h2 hS1
theorem goL_v {a : Array Value} (hr : va_Run p l e R s m args below meth c H locs cells slots 0 0 (F0 m pc ls st) rest (QcV D wa w1 H.size a) (va_A wa H.size)) (hP : va_P D vwCl (wa ++ wb) H) (hD : va_D A (wa ++ wb)) (hS : va_S A H0 H locs) (hA : ∀ q, H0.size ≤ q → A q) (kk : ∀ (H1 : Heap) (locs1 : List Loc), va_P D vwCl (w1 ++ wb) H1 → va_D A (w1 ++ wb) → va_S A H0 H1 locs1 → W p l e R s m args below meth c H1 locs1 cells slots Q (F0 m (pc + 3) ls rest)) : W p l e R s m args below meth c H locs cells slots Q (F0 m pc ls st) := by
  have hF := tw_freeL (sp_D hD).1 hS hA
  refine va_callv hr hS (fun q _ h => hF q h) hF (fun u t H1 locs1 ht hvm hw hB hz1 hk1 hS1 => ?_)
  obtain ⟨hP1, hD1⟩ := hB
  rw [ht] at hP1
  obtain ⟨h1, h2⟩ := jn_L hP hD hk1 hF hP1 hD1
  exact kk H1 locs1 h1 h2 hS1
theorem goR_i {rv : Int32} {a : Array Value} (hr : va_Run p l e R s m args below meth c H locs cells slots 0 0 (F0 m pc ls st) rest (QcI D wb w1 rv H.size a) (va_A wb H.size)) (hP : va_P D vwCl (wa ++ wb) H) (hD : va_D A (wa ++ wb)) (hS : va_S A H0 H locs) (hA : ∀ q, H0.size ≤ q → A q) (kk : ∀ (H1 : Heap) (locs1 : List Loc), va_P D vwCl (wa ++ w1) H1 → va_D A (wa ++ w1) → va_S A H0 H1 locs1 → W p l e R s m args below meth c H1 locs1 cells slots Q (F0 m (pc + 3) ls (.int rv :: rest))) : W p l e R s m args below meth c H locs cells slots Q (F0 m pc ls st) := by
  have hF := tw_freeL (sp_D hD).2.1 hS hA
  refine va_calli hr hS (fun q _ h => hF q h) hF (fun r u t H1 locs1 ht hvm hw hB hz1 hk1 hS1 => ?_)
  subst hw
  obtain ⟨hP1, hD1⟩ := hB
  rw [ht] at hP1
  obtain ⟨h1, h2⟩ := jn_R hP hD hk1 hF hP1 hD1
  exact kk H1 locs1 h1 h2 hS1
theorem goR_l {rv : Int64} {a : Array Value} (hr : va_Run p l e R s m args below meth c H locs cells slots 0 0 (F0 m pc ls st) rest (QcL D wb w1 rv H.size a) (va_A wb H.size)) (hP : va_P D vwCl (wa ++ wb) H) (hD : va_D A (wa ++ wb)) (hS : va_S A H0 H locs) (hA : ∀ q, H0.size ≤ q → A q) (kk : ∀ (H1 : Heap) (locs1 : List Loc), va_P D vwCl (wa ++ w1) H1 → va_D A (wa ++ w1) → va_S A H0 H1 locs1 → W p l e R s m args below meth c H1 locs1 cells slots Q (F0 m (pc + 3) ls (.long rv :: rest))) : W p l e R s m args below meth c H locs cells slots Q (F0 m pc ls st) := by
  have hF := tw_freeL (sp_D hD).2.1 hS hA
  refine va_calll hr hS (fun q _ h => hF q h) hF (fun r u t H1 locs1 ht hvm hw hB hz1 hk1 hS1 => ?_)
  subst hw
  obtain ⟨hP1, hD1⟩ := hB
  rw [ht] at hP1
  obtain ⟨h1, h2⟩ := jn_R hP hD hk1 hF hP1 hD1
  exact kk H1 locs1 h1 h2 hS1
theorem goR_v {a : Array Value} (hr : va_Run p l e R s m args below meth c H locs cells slots 0 0 (F0 m pc ls st) rest (QcV D wb w1 H.size a) (va_A wb H.size)) (hP : va_P D vwCl (wa ++ wb) H) (hD : va_D A (wa ++ wb)) (hS : va_S A H0 H locs) (hA : ∀ q, H0.size ≤ q → A q) (kk : ∀ (H1 : Heap) (locs1 : List Loc), va_P D vwCl (wa ++ w1) H1 → va_D A (wa ++ w1) → va_S A H0 H1 locs1 → W p l e R s m args below meth c H1 locs1 cells slots Q (F0 m (pc + 3) ls rest)) : W p l e R s m args below meth c H locs cells slots Q (F0 m pc ls st) := by
  have hF := tw_freeL (sp_D hD).2.1 hS hA
  refine va_callv hr hS (fun q _ h => hF q h) hF (fun u t H1 locs1 ht hvm hw hB hz1 hk1 hS1 => ?_)
  obtain ⟨hP1, hD1⟩ := hB
  rw [ht] at hP1
  obtain ⟨h1, h2⟩ := jn_R hP hD hk1 hF hP1 hD1
  exact kk H1 locs1 h1 h2 hS1
end TWO
theorem law_c {i L : Nat} (hi : i ≤ 2000) (hL : L ≤ 1538) : nI L - (3 : Int32) < nI i ↔ L < i + 3 := by
  rw [Int32.lt_iff_toInt_lt, Int32.toInt_sub, nI_toInt (by omega), nI_toInt (by omega), show (3 : Int32).toInt = 3 from by decide, Int.bmod_eq_of_le (by omega) (by omega)]
  omega
theorem nI_2 (i : Nat) : nI i + (2 : Int32) = nI (i + 2) := nI_add i 2
theorem nI_3 (i : Nat) : nI i + (3 : Int32) = nI (i + 3) := nI_add i 3
theorem lcmp_self (x : Int64) : lg_cmp x x = 0 := by simp [lg_cmp]
def LawX (p : Program) (s : State) (m : MethodId) (meth : Method) (c : Code) (b L : Nat) (xs : Nat → Int32) : Prop := CallFix p m c code 4 s #[Value.ref b] big RL ∧ meth.sig.returnType = ret ∧ va_X b L xs s s.heap ∧ b < s.heap.size ∧ meth.locks = false
abbrev AL (s : State) : Nat → Prop := fun q => s.heap.size ≤ q
