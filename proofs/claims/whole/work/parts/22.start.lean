theorem wd_49 : (.classLink RL 7 RX4 : Cond) ∈ big := mb 49 (by decide +kernel) rfl
theorem wd_50 : (.instantiable RX4 9 : Cond) ∈ big := mb 50 (by decide +kernel) rfl
theorem wd_52 : (.instanceMethod yX4_init : Cond) ∈ big := mb 52 (by decide +kernel) rfl
theorem wd_457 : (.classLink RL 18 RX5 : Cond) ∈ big := mb 457 (by decide +kernel) rfl
theorem wd_458 : (.instantiable RX5 27 : Cond) ∈ big := mb 458 (by decide +kernel) rfl
theorem wd_460 : (.instanceMethod yX5_init : Cond) ∈ big := mb 460 (by decide +kernel) rfl
set_option maxHeartbeats 4000000 in
set_option maxRecDepth 100000 in
theorem law_cell {p : Program} {l : Launch} {e : Env} {s : State} {m : MethodId} {below : List Frame} {meth : Method} {c : Code} {D : va_G} {b L : Nat} {xs : Nat → Int32} {H : Heap} {locs : List Loc} {cells slots : Nat} {Q : State → Prop} {ws : va_W} {pc : Nat} {ls : Array Slot} {rest : List Value} {k : Int32} (hL : L ≤ 1538) (hfix : CallFix p m c code 4 s #[Value.ref b] big RL) (hX : va_X b L xs s s.heap) (hbl : b < s.heap.size) (hP : va_P D vwCl ws H) (hS : va_S (AL s) s.heap H locs) (hk : 0 ≤ k.toInt) (hls : ls.size = 4) (hW : (rest.map fun v => v.category).sum ≤ 8) (hf : cells ≤ room_1.cells ∧ slots ≤ room_1.slots) (hdg : decode code pc = .ok (.invokestatic 9, 3))
    (kk : ∀ (H1 : Heap) (locs1 : List Loc), va_P D vwCl ws H1 → va_S (AL s) s.heap H1 locs1 → W p l e room_1 s m #[Value.ref b] below meth c H1 locs1 cells slots Q (F0 m (pc + 3) ls (.int (cellv L xs k) :: rest))) : W p l e room_1 s m #[Value.ref b] below meth c H locs cells slots Q (F0 m pc ls (.int k :: .ref b :: rest)) := by
  have hbA : ¬ AL s b := Nat.not_le.mpr hbl
  have hXH : va_X b L xs s H := hX.kept (hS.2.1 b hbl hbA)
  have hrun : va_Run p l e room_1 s m #[Value.ref b] below meth c H locs cells slots 0 0 (F0 m pc ls (.int k :: .ref b :: rest)) rest (Qcell (cellv L xs k) ([Value.ref b, .int k] : List Value).toArray) (fun _ => False) :=
    va_runS (As := [.ref b, .int k]) (rest := rest) hfix (c_L_cell l b L xs k hk hL) ⟨tw_CB hfix.2.2.2.2 ok_L_cell.1 wd_454 ⟨by decide, by decide⟩, hfix.2.2.2.2 _ ok_L_cell.2⟩ ⟨fun a U g mk hq => ⟨hq.1, va_X.moved (u := U) (U := U.calling g mk a) (Vm.Alike.refl U.vm) hq.2⟩, fun U hU hW2 => ⟨rfl, by show va_X b L xs U U.heap; rw [hU]; exact va_X.moved hW2.alike hXH⟩⟩ rfl rfl hls rfl (lv_room hW) hdg hf
  refine va_calli hrun hS (fun q _ h => h.elim) (fun q h => h.elim) (fun r u t H1 locs1 ht hvm hw hB hz1 hk1 hS1 => ?_)
  subst hw
  exact kk H1 locs1 (fun k2 x hx2 => (hP k2 x hx2).kept (hk1 x.1 ((hP k2 x hx2).lt) id)) hS1
set_option maxHeartbeats 4000000 in
set_option maxRecDepth 100000 in
theorem whole_start {p : Program} {e : Env} {s : State} {m : MethodId} {below : List Frame} {meth : Method} {c : Code} (l : Launch) {b L : Nat} {xs : Nat → Int32} (hL : L ≤ 1538) (C0 : lw_At p s m meth c b L xs) : W p l e room_1 s m #[Value.ref b] below meth c s.heap [] 0 0 (lw_Z below #[Value.ref b] s) (entryFrame m ([Value.ref b] : List Value).toArray 4) := by
  obtain ⟨hx, hb, hr, hml, hown, hts0, hX, hbl, hlk, -⟩ := C0
  have hts : ∀ w ∈ big, w.before #[Value.ref b] s = true := fun w h => hts0 w (big_in h)
  have hfix : CallFix p m c code 4 s #[Value.ref b] big RL := ⟨hx, hb, hml, hown, hts⟩
  have hA : ∀ q : Nat, s.heap.size ≤ q → AL s q := fun _ h => h
  obtain ⟨c0, i0, hk0⟩ := u_known (C := RX0) (T := TX0) (N := 8) (n := 8) hts inX0 (hts _ wd_106)
  obtain ⟨c1, i1, hk1⟩ := u_known (C := RX1) (T := TX1) (N := 1) (n := 1) hts inX1 (hts _ wd_58)
  obtain ⟨c2, i2, hk2⟩ := u_known (C := RX2) (T := TX2) (N := 2) (n := 2) hts inX2 (hts _ wd_91)
  obtain ⟨c3, i3, hk3⟩ := u_known (C := RX3) (T := TX3) (N := 2) (n := 2) hts inX3 (hts _ wd_76)
  obtain ⟨c4, i4, hk4⟩ := u_known (C := RX4) (T := TX4) (N := 9) (n := 9) hts inX4 (hts _ wd_50)
  obtain ⟨c5, i5, hk5⟩ := u_known (C := RX5) (T := TX5) (N := 27) (n := 27) hts inX5 (hts _ wd_458)
  obtain ⟨D, hKc⟩ : ∃ D : va_G, ∀ (k : Nat) (q : vw_C), vwCl[k]? = some q → u_Kn s q.1 q.2.1 q.2.2 (D.1 k) (D.2 k) := by
    refine ⟨(fun k => match k with | 0 => c0 | 1 => c1 | 2 => c2 | 3 => c3 | 4 => c4 | _ => c5, fun k => match k with | 0 => i0 | 1 => i1 | 2 => i2 | 3 => i3 | 4 => i4 | _ => i5), ?_⟩
    intro k q hq
    match k, hq with
    | 0, hq => cases hq; exact hk0
    | 1, hq => cases hq; exact hk1
    | 2, hq => cases hq; exact hk2
    | 3, hq => cases hq; exact hk3
    | 4, hq => cases hq; exact hk4
    | 5, hq => cases hq; exact hk5
    | k + 6, hq => simp [vwCl] at hq
  have hS : va_S (AL s) s.heap s.heap [] := va_S.rf
  have hK : va_K D vwCl [] s := ⟨hKc, fun k q h => by simp at h⟩
  have hP : va_P D vwCl [] s.heap := fun k q h => by simp at h
  have hD : va_D (AL s) [] := ⟨fun i j p q h => by simp at h, fun k q h => by simp at h⟩
  have X0 : Cx p m c code 4 s #[Value.ref b] RL D [] := ⟨hfix, hK⟩
  have hl := lv_entry ([.ref b]) (n := 4) (Nat.le_of_ble_eq_true rfl)
  rw [lg_entry_eq]
  generalize (lg_sl ([.ref b]) ++ List.replicate (4 - (lg_sl ([.ref b])).length) Slot.unset).toArray = ls at hl ⊢
  have hl : lv_has ls 4 [(0, .ref b)] := hl
  obtain ⟨hC, hw0, hb0⟩ := rel_init (cellv L xs 0) (cellv L xs 1)
  refine va_new (ci := 4) (fs := [.null, .null, .null, .null, .null, .int 0, .int 0, .long 0, .int 0]) (C := RX4) (T := TX4) (N := 9) hx hb hts inX4 tyX4 tyX4_ok hown (hts _ wd_49) (hts _ wd_50) (hts _ wd_40) hK hP hD hS hA rfl (fun j hj => by rcases (show j = 0 ∨ j = 1 ∨ j = 2 ∨ j = 3 ∨ j = 4 ∨ j = 5 ∨ j = 6 ∨ j = 7 ∨ j = 8 by omega) with rfl | rfl | rfl | rfl | rfl | rfl | rfl | rfl | rfl <;> rfl) (by decide) (by decide) dL_law_0 (fun qx H hP hD hS => ?_)
  have hP : va_P D vwCl [(qx, .inr (4, [.null, .null, .null, .null, .null, .int 0, .int 0, .long 0, .int 0]))] H := hP
  have hD : va_D (AL s) [(qx, .inr (4, [.null, .null, .null, .null, .null, .int 0, .int 0, .long 0, .int 0]))] := hD
  refine W.widen (k := 1) (n := 9) (by omega) (by omega) ?_
  refine lv_dup hx hb dL_law_3 rfl ?_
  refine lv_aload_n hx hb dL_law_4 rfl (lv_at hl 0 rfl) ?_
  refine lv_iconst (v := (0 : Int32)) hx hb dL_law_5 (by decide) ?_
  refine law_cell hL hfix hX hbl hP hS (by decide) hl.1 (Nat.le_of_ble_eq_true rfl) ⟨by decide, by decide⟩ dL_law_6 (fun H locs hP hS => ?_)
  refine lv_aload_n hx hb dL_law_9 rfl (lv_at hl 0 rfl) ?_
  refine lv_iconst (v := (1 : Int32)) hx hb dL_law_10 (by decide) ?_
  refine law_cell hL hfix hX hbl hP hS (by decide) hl.1 (Nat.le_of_ble_eq_true rfl) ⟨by decide, by decide⟩ dL_law_11 (fun H locs hP hS => ?_)
  have hFc := tw_freeL hD hS hA
  refine va_callv (ct_I X0 (c_X4_init l D qx (nWof (cellv L xs 0)) (nBof (cellv L xs 1)) hC.1 (cellv L xs 0) (cellv L xs 1) hw0 rfl hb0 rfl) okc_X4_init rfl wd_52 wd_51 ⟨by decide, by decide⟩ hP hK hD rfl hl.1 rfl (Nat.le_of_ble_eq_true rfl) dL_law_14 ⟨by decide, by decide⟩) hS (fun q _ h => hFc q h) hFc (fun u t H1 locs ht hvm hw hB hz1 hk1 hS => ?_)
  obtain ⟨q, ca⟩ := u
  obtain ⟨h0, hP1, hK1, hD1⟩ := hB
  dsimp only at h0 hP1 hK1 hD1
  subst h0
  rw [ht] at hP1
  have hKa := va_K.moved hvm.symm hK1
  have hD := hD1.weaken (fun _ z _ h => hFc z.1 h)
  have hP := hP1
  clear hP1 hD1 hFc hk1
  generalize H1 = H at hP hS ⊢
  refine W.widen (k := 100) (n := 50000) (by omega) (by omega) ?_
  refine lv_astore_n (lv' := [(1, .ref (q 0)), (0, .ref b)]) hx hb dL_law_17 rfl hl (by decide) rfl (fun ls hl => ?_)
  refine va_new (ci := 5) (fs := [.int 0, .int 0, .null, .null, .int 0, .int 0, .int 0, .int 0, .int 0, .int 0, .int 0, .int 0, .int 0, .long 0, .long 0, .null, .int 0, .long 0, .int 0, .int 0, .int 0, .int 0, .int 0, .int 0, .int 0, .int 0, .int 0]) (C := RX5) (T := TX5) (N := 27) hx hb hts inX5 tyX5 tyX5_ok hown (hts _ wd_457) (hts _ wd_458) (hts _ wd_46) hKa hP hD hS hA rfl (fun j hj => by rcases (show j = 0 ∨ j = 1 ∨ j = 2 ∨ j = 3 ∨ j = 4 ∨ j = 5 ∨ j = 6 ∨ j = 7 ∨ j = 8 ∨ j = 9 ∨ j = 10 ∨ j = 11 ∨ j = 12 ∨ j = 13 ∨ j = 14 ∨ j = 15 ∨ j = 16 ∨ j = 17 ∨ j = 18 ∨ j = 19 ∨ j = 20 ∨ j = 21 ∨ j = 22 ∨ j = 23 ∨ j = 24 ∨ j = 25 ∨ j = 26 by omega) with rfl | rfl | rfl | rfl | rfl | rfl | rfl | rfl | rfl | rfl | rfl | rfl | rfl | rfl | rfl | rfl | rfl | rfl | rfl | rfl | rfl | rfl | rfl | rfl | rfl | rfl | rfl <;> rfl) (by decide) (by decide) dL_law_18 (fun rx H hP hD hS => ?_)
  refine W.widen (k := 101) (n := 50027) (by omega) (by omega) ?_
  refine lv_dup hx hb dL_law_21 rfl ?_
  refine lv_aload_n hx hb dL_law_22 rfl (lv_at hl 1 rfl) ?_
  refine lv_iconst (v := (0 : Int32)) hx hb dL_law_23 (by decide) ?_
  refine law_cell hL hfix hX hbl hP hS (by decide) hl.1 (Nat.le_of_ble_eq_true rfl) ⟨by decide, by decide⟩ dL_law_24 (fun H locs hP hS => ?_)
  refine lv_aload_n hx hb dL_law_27 rfl (lv_at hl 1 rfl) ?_
  refine lv_iconst (v := (1 : Int32)) hx hb dL_law_28 (by decide) ?_
  refine law_cell hL hfix hX hbl hP hS (by decide) hl.1 (Nat.le_of_ble_eq_true rfl) ⟨by decide, by decide⟩ dL_law_29 (fun H locs hP hS => ?_)
  have hFc := tw_freeL (sp_D hD).2.1 hS hA
  refine va_callv (ct_I (tyc := []) X0 (c_X5_init l D rx (cellv L xs 0) (cellv L xs 1) hC.2.1) okc_X5_init rfl wd_460 wd_459 ⟨by decide, by decide⟩ (sp_P hP).2 hK (sp_D hD).2.1 rfl hl.1 rfl (Nat.le_of_ble_eq_true rfl) dL_law_32 ⟨by decide, by decide⟩) hS (fun q _ h => hFc q h) hFc (fun u t H1 locs ht hvm hw hB hz1 hk1 hS => ?_)
  obtain ⟨r, cb⟩ := u
  obtain ⟨h0, hP1, hK1, hD1⟩ := hB
  dsimp only at h0 hP1 hK1 hD1
  subst h0
  rw [ht] at hP1
  have hKb := va_K.moved hvm.symm hK1
  obtain ⟨hP, hD⟩ := jn_R hP hD hk1 hFc hP1 hD1
  clear hP1 hD1 hFc hk1
  generalize H1 = H at hP hS ⊢
  refine W.widen (k := 600000) (n := 7302250) (by omega) (by omega) ?_
  refine lv_astore_n (lv' := [(2, .ref (r 0)), (1, .ref (q 0)), (0, .ref b)]) hx hb dL_law_35 rfl hl (by decide) rfl (fun ls hl => ?_)
  refine lv_iconst (v := nI 2) hx hb dL_law_36 (by decide) ?_
  refine lv_istore_n (lv' := [(3, .int (nI 2)), (2, .ref (r 0)), (1, .ref (q 0)), (0, .ref b)]) hx hb dL_law_37 rfl hl (by decide) rfl (fun ls hl => ?_)
  exact law_loop hL ⟨hfix, hr, hX, hbl, hlk⟩ hKa hKb (L + 2) 2 (by omega) (by omega) _ _ (rel_new (cellv L xs 0) (cellv L xs 1)) H locs ls hP hD hS (lv_sub hl [0, 3, 2, 1] rfl)
