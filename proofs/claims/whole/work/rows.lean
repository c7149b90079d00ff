section
/-! PART A of the skeleton, and names (printed by TURN) -/
def lw_okq (q : MethodName × Nat) : Prop := (q.1.cls ≠ "java/lang/invoke/MethodHandle" ∧ q.1.cls ≠ "java/lang/invoke/VarHandle") ∧ Cond.instantiable q.1.cls q.2 ∈ tables_1 ∧ Cond.privateMethod q.1 ∈ tables_1 ∧ Cond.instanceMethod q.1 ∈ tables_1
theorem lw_p0 : lw_okq (⟨"RvCore", "stepOnce", "()I"⟩, 9) := ⟨⟨by decide +kernel, by decide +kernel⟩, List.mem_of_getElem? (i := 11) (by decide +kernel), List.mem_of_getElem? (i := 179) (by decide +kernel), List.mem_of_getElem? (i := 180) (by decide +kernel)⟩
theorem lw_p1 : lw_okq (⟨"RvCore", "instruct", "()I"⟩, 9) := ⟨⟨by decide +kernel, by decide +kernel⟩, List.mem_of_getElem? (i := 11) (by decide +kernel), List.mem_of_getElem? (i := 207) (by decide +kernel), List.mem_of_getElem? (i := 208) (by decide +kernel)⟩
theorem lw_p2 : lw_okq (⟨"RvCore", "trap", "(II)I"⟩, 9) := ⟨⟨by decide +kernel, by decide +kernel⟩, List.mem_of_getElem? (i := 11) (by decide +kernel), List.mem_of_getElem? (i := 211) (by decide +kernel), List.mem_of_getElem? (i := 212) (by decide +kernel)⟩
theorem lw_p3 : lw_okq (⟨"RvCore", "retire", "(II)I"⟩, 9) := ⟨⟨by decide +kernel, by decide +kernel⟩, List.mem_of_getElem? (i := 11) (by decide +kernel), List.mem_of_getElem? (i := 215) (by decide +kernel), List.mem_of_getElem? (i := 216) (by decide +kernel)⟩
theorem lw_p4 : lw_okq (⟨"RvCore", "setD", "(II)V"⟩, 9) := ⟨⟨by decide +kernel, by decide +kernel⟩, List.mem_of_getElem? (i := 11) (by decide +kernel), List.mem_of_getElem? (i := 219) (by decide +kernel), List.mem_of_getElem? (i := 220) (by decide +kernel)⟩
theorem lw_p5 : lw_okq (⟨"RvCore", "retireAt", "(I)I"⟩, 9) := ⟨⟨by decide +kernel, by decide +kernel⟩, List.mem_of_getElem? (i := 11) (by decide +kernel), List.mem_of_getElem? (i := 223) (by decide +kernel), List.mem_of_getElem? (i := 224) (by decide +kernel)⟩
theorem lw_p6 : lw_okq (⟨"RvCore", "jump", "(II)I"⟩, 9) := ⟨⟨by decide +kernel, by decide +kernel⟩, List.mem_of_getElem? (i := 11) (by decide +kernel), List.mem_of_getElem? (i := 231) (by decide +kernel), List.mem_of_getElem? (i := 232) (by decide +kernel)⟩
theorem lw_p7 : lw_okq (⟨"RvCore", "a", "(I)I"⟩, 9) := ⟨⟨by decide +kernel, by decide +kernel⟩, List.mem_of_getElem? (i := 11) (by decide +kernel), List.mem_of_getElem? (i := 238) (by decide +kernel), List.mem_of_getElem? (i := 239) (by decide +kernel)⟩
theorem lw_p8 : lw_okq (⟨"RvCore", "illegal", "(I)I"⟩, 9) := ⟨⟨by decide +kernel, by decide +kernel⟩, List.mem_of_getElem? (i := 11) (by decide +kernel), List.mem_of_getElem? (i := 248) (by decide +kernel), List.mem_of_getElem? (i := 249) (by decide +kernel)⟩
theorem lw_p9 : lw_okq (⟨"RvCore", "branch", "(I)I"⟩, 9) := ⟨⟨by decide +kernel, by decide +kernel⟩, List.mem_of_getElem? (i := 11) (by decide +kernel), List.mem_of_getElem? (i := 252) (by decide +kernel), List.mem_of_getElem? (i := 253) (by decide +kernel)⟩
theorem lw_p10 : lw_okq (⟨"RvCore", "b", "(I)I"⟩, 9) := ⟨⟨by decide +kernel, by decide +kernel⟩, List.mem_of_getElem? (i := 11) (by decide +kernel), List.mem_of_getElem? (i := 256) (by decide +kernel), List.mem_of_getElem? (i := 257) (by decide +kernel)⟩
theorem lw_p11 : lw_okq (⟨"RvCore", "read", "(I)I"⟩, 9) := ⟨⟨by decide +kernel, by decide +kernel⟩, List.mem_of_getElem? (i := 11) (by decide +kernel), List.mem_of_getElem? (i := 276) (by decide +kernel), List.mem_of_getElem? (i := 277) (by decide +kernel)⟩
theorem lw_p12 : lw_okq (⟨"RvCore", "store", "(I)I"⟩, 9) := ⟨⟨by decide +kernel, by decide +kernel⟩, List.mem_of_getElem? (i := 11) (by decide +kernel), List.mem_of_getElem? (i := 305) (by decide +kernel), List.mem_of_getElem? (i := 306) (by decide +kernel)⟩
theorem lw_p13 : lw_okq (⟨"RvCore", "reckonWithNumber", "(I)I"⟩, 9) := ⟨⟨by decide +kernel, by decide +kernel⟩, List.mem_of_getElem? (i := 11) (by decide +kernel), List.mem_of_getElem? (i := 329) (by decide +kernel), List.mem_of_getElem? (i := 330) (by decide +kernel)⟩
theorem lw_p14 : lw_okq (⟨"RvCore", "reckonWithRegister", "(I)I"⟩, 9) := ⟨⟨by decide +kernel, by decide +kernel⟩, List.mem_of_getElem? (i := 11) (by decide +kernel), List.mem_of_getElem? (i := 339) (by decide +kernel), List.mem_of_getElem? (i := 340) (by decide +kernel)⟩
theorem lw_p15 : lw_okq (⟨"RvCore", "system", "(I)I"⟩, 9) := ⟨⟨by decide +kernel, by decide +kernel⟩, List.mem_of_getElem? (i := 11) (by decide +kernel), List.mem_of_getElem? (i := 350) (by decide +kernel), List.mem_of_getElem? (i := 351) (by decide +kernel)⟩
def lw_privs_1 : List (MethodName × Nat) := [(⟨"RvCore", "stepOnce", "()I"⟩, 9), (⟨"RvCore", "instruct", "()I"⟩, 9), (⟨"RvCore", "trap", "(II)I"⟩, 9), (⟨"RvCore", "retire", "(II)I"⟩, 9), (⟨"RvCore", "setD", "(II)V"⟩, 9), (⟨"RvCore", "retireAt", "(I)I"⟩, 9), (⟨"RvCore", "jump", "(II)I"⟩, 9), (⟨"RvCore", "a", "(I)I"⟩, 9), (⟨"RvCore", "illegal", "(I)I"⟩, 9), (⟨"RvCore", "branch", "(I)I"⟩, 9), (⟨"RvCore", "b", "(I)I"⟩, 9), (⟨"RvCore", "read", "(I)I"⟩, 9), (⟨"RvCore", "store", "(I)I"⟩, 9), (⟨"RvCore", "reckonWithNumber", "(I)I"⟩, 9), (⟨"RvCore", "reckonWithRegister", "(I)I"⟩, 9), (⟨"RvCore", "system", "(I)I"⟩, 9)]
theorem lw_r1 : ∀ q ∈ lw_privs_1, lw_okq q := List.forall_mem_cons.mpr ⟨lw_p0, List.forall_mem_cons.mpr ⟨lw_p1, List.forall_mem_cons.mpr ⟨lw_p2, List.forall_mem_cons.mpr ⟨lw_p3, List.forall_mem_cons.mpr ⟨lw_p4, List.forall_mem_cons.mpr ⟨lw_p5, List.forall_mem_cons.mpr ⟨lw_p6, List.forall_mem_cons.mpr ⟨lw_p7, List.forall_mem_cons.mpr ⟨lw_p8, List.forall_mem_cons.mpr ⟨lw_p9, List.forall_mem_cons.mpr ⟨lw_p10, List.forall_mem_cons.mpr ⟨lw_p11, List.forall_mem_cons.mpr ⟨lw_p12, List.forall_mem_cons.mpr ⟨lw_p13, List.forall_mem_cons.mpr ⟨lw_p14, List.forall_mem_cons.mpr ⟨lw_p15, fun _ h => absurd h List.not_mem_nil⟩⟩⟩⟩⟩⟩⟩⟩⟩⟩⟩⟩⟩⟩⟩⟩
theorem lw_p16 : lw_okq (⟨"RvCore", "control", "(I)I"⟩, 9) := ⟨⟨by decide +kernel, by decide +kernel⟩, List.mem_of_getElem? (i := 11) (by decide +kernel), List.mem_of_getElem? (i := 358) (by decide +kernel), List.mem_of_getElem? (i := 359) (by decide +kernel)⟩
theorem lw_p17 : lw_okq (⟨"RvCoreModel", "isThere", "(II)Z"⟩, 27) := ⟨⟨by decide +kernel, by decide +kernel⟩, List.mem_of_getElem? (i := 419) (by decide +kernel), List.mem_of_getElem? (i := 518) (by decide +kernel), List.mem_of_getElem? (i := 519) (by decide +kernel)⟩
theorem lw_p18 : lw_okq (⟨"RvCoreModel", "put", "(III)V"⟩, 27) := ⟨⟨by decide +kernel, by decide +kernel⟩, List.mem_of_getElem? (i := 419) (by decide +kernel), List.mem_of_getElem? (i := 526) (by decide +kernel), List.mem_of_getElem? (i := 527) (by decide +kernel)⟩
theorem lw_p19 : lw_okq (⟨"RvCoreModel", "isDue", "()Z"⟩, 27) := ⟨⟨by decide +kernel, by decide +kernel⟩, List.mem_of_getElem? (i := 419) (by decide +kernel), List.mem_of_getElem? (i := 539) (by decide +kernel), List.mem_of_getElem? (i := 540) (by decide +kernel)⟩
theorem lw_p20 : lw_okq (⟨"RvCoreModel", "once", "()I"⟩, 27) := ⟨⟨by decide +kernel, by decide +kernel⟩, List.mem_of_getElem? (i := 419) (by decide +kernel), List.mem_of_getElem? (i := 548) (by decide +kernel), List.mem_of_getElem? (i := 549) (by decide +kernel)⟩
theorem lw_p21 : lw_okq (⟨"RvCoreModel", "trap", "(II)I"⟩, 27) := ⟨⟨by decide +kernel, by decide +kernel⟩, List.mem_of_getElem? (i := 419) (by decide +kernel), List.mem_of_getElem? (i := 554) (by decide +kernel), List.mem_of_getElem? (i := 555) (by decide +kernel)⟩
theorem lw_p22 : lw_okq (⟨"RvCoreModel", "instruction", "()I"⟩, 27) := ⟨⟨by decide +kernel, by decide +kernel⟩, List.mem_of_getElem? (i := 419) (by decide +kernel), List.mem_of_getElem? (i := 558) (by decide +kernel), List.mem_of_getElem? (i := 559) (by decide +kernel)⟩
theorem lw_p23 : lw_okq (⟨"RvCoreModel", "get", "(II)I"⟩, 27) := ⟨⟨by decide +kernel, by decide +kernel⟩, List.mem_of_getElem? (i := 419) (by decide +kernel), List.mem_of_getElem? (i := 562) (by decide +kernel), List.mem_of_getElem? (i := 563) (by decide +kernel)⟩
theorem lw_p24 : lw_okq (⟨"RvCoreModel", "work", "()I"⟩, 27) := ⟨⟨by decide +kernel, by decide +kernel⟩, List.mem_of_getElem? (i := 419) (by decide +kernel), List.mem_of_getElem? (i := 566) (by decide +kernel), List.mem_of_getElem? (i := 567) (by decide +kernel)⟩
theorem lw_p25 : lw_okq (⟨"RvCoreModel", "become", "(I)I"⟩, 27) := ⟨⟨by decide +kernel, by decide +kernel⟩, List.mem_of_getElem? (i := 419) (by decide +kernel), List.mem_of_getElem? (i := 570) (by decide +kernel), List.mem_of_getElem? (i := 571) (by decide +kernel)⟩
theorem lw_p26 : lw_okq (⟨"RvCoreModel", "goTo", "(IZ)I"⟩, 27) := ⟨⟨by decide +kernel, by decide +kernel⟩, List.mem_of_getElem? (i := 419) (by decide +kernel), List.mem_of_getElem? (i := 575) (by decide +kernel), List.mem_of_getElem? (i := 576) (by decide +kernel)⟩
theorem lw_p27 : lw_okq (⟨"RvCoreModel", "immediate", "()I"⟩, 27) := ⟨⟨by decide +kernel, by decide +kernel⟩, List.mem_of_getElem? (i := 419) (by decide +kernel), List.mem_of_getElem? (i := 579) (by decide +kernel), List.mem_of_getElem? (i := 580) (by decide +kernel)⟩
theorem lw_p28 : lw_okq (⟨"RvCoreModel", "illegal", "()I"⟩, 27) := ⟨⟨by decide +kernel, by decide +kernel⟩, List.mem_of_getElem? (i := 419) (by decide +kernel), List.mem_of_getElem? (i := 583) (by decide +kernel), List.mem_of_getElem? (i := 584) (by decide +kernel)⟩
theorem lw_p29 : lw_okq (⟨"RvCoreModel", "branch", "()I"⟩, 27) := ⟨⟨by decide +kernel, by decide +kernel⟩, List.mem_of_getElem? (i := 419) (by decide +kernel), List.mem_of_getElem? (i := 587) (by decide +kernel), List.mem_of_getElem? (i := 588) (by decide +kernel)⟩
theorem lw_p30 : lw_okq (⟨"RvCoreModel", "read", "()I"⟩, 27) := ⟨⟨by decide +kernel, by decide +kernel⟩, List.mem_of_getElem? (i := 419) (by decide +kernel), List.mem_of_getElem? (i := 595) (by decide +kernel), List.mem_of_getElem? (i := 596) (by decide +kernel)⟩
theorem lw_p31 : lw_okq (⟨"RvCoreModel", "store", "()I"⟩, 27) := ⟨⟨by decide +kernel, by decide +kernel⟩, List.mem_of_getElem? (i := 419) (by decide +kernel), List.mem_of_getElem? (i := 610) (by decide +kernel), List.mem_of_getElem? (i := 611) (by decide +kernel)⟩
def lw_privs_2 : List (MethodName × Nat) := [(⟨"RvCore", "control", "(I)I"⟩, 9), (⟨"RvCoreModel", "isThere", "(II)Z"⟩, 27), (⟨"RvCoreModel", "put", "(III)V"⟩, 27), (⟨"RvCoreModel", "isDue", "()Z"⟩, 27), (⟨"RvCoreModel", "once", "()I"⟩, 27), (⟨"RvCoreModel", "trap", "(II)I"⟩, 27), (⟨"RvCoreModel", "instruction", "()I"⟩, 27), (⟨"RvCoreModel", "get", "(II)I"⟩, 27), (⟨"RvCoreModel", "work", "()I"⟩, 27), (⟨"RvCoreModel", "become", "(I)I"⟩, 27), (⟨"RvCoreModel", "goTo", "(IZ)I"⟩, 27), (⟨"RvCoreModel", "immediate", "()I"⟩, 27), (⟨"RvCoreModel", "illegal", "()I"⟩, 27), (⟨"RvCoreModel", "branch", "()I"⟩, 27), (⟨"RvCoreModel", "read", "()I"⟩, 27), (⟨"RvCoreModel", "store", "()I"⟩, 27)]
theorem lw_r2 : ∀ q ∈ lw_privs_2, lw_okq q := List.forall_mem_cons.mpr ⟨lw_p16, List.forall_mem_cons.mpr ⟨lw_p17, List.forall_mem_cons.mpr ⟨lw_p18, List.forall_mem_cons.mpr ⟨lw_p19, List.forall_mem_cons.mpr ⟨lw_p20, List.forall_mem_cons.mpr ⟨lw_p21, List.forall_mem_cons.mpr ⟨lw_p22, List.forall_mem_cons.mpr ⟨lw_p23, List.forall_mem_cons.mpr ⟨lw_p24, List.forall_mem_cons.mpr ⟨lw_p25, List.forall_mem_cons.mpr ⟨lw_p26, List.forall_mem_cons.mpr ⟨lw_p27, List.forall_mem_cons.mpr ⟨lw_p28, List.forall_mem_cons.mpr ⟨lw_p29, List.forall_mem_cons.mpr ⟨lw_p30, List.forall_mem_cons.mpr ⟨lw_p31, fun _ h => absurd h List.not_mem_nil⟩⟩⟩⟩⟩⟩⟩⟩⟩⟩⟩⟩⟩⟩⟩⟩
theorem lw_p32 : lw_okq (⟨"RvCoreModel", "reckonBy", "(I)I"⟩, 27) := ⟨⟨by decide +kernel, by decide +kernel⟩, List.mem_of_getElem? (i := 419) (by decide +kernel), List.mem_of_getElem? (i := 618) (by decide +kernel), List.mem_of_getElem? (i := 619) (by decide +kernel)⟩
theorem lw_p33 : lw_okq (⟨"RvCoreModel", "reckon", "(II)I"⟩, 27) := ⟨⟨by decide +kernel, by decide +kernel⟩, List.mem_of_getElem? (i := 419) (by decide +kernel), List.mem_of_getElem? (i := 622) (by decide +kernel), List.mem_of_getElem? (i := 623) (by decide +kernel)⟩
theorem lw_p34 : lw_okq (⟨"RvCoreModel", "reckonTwo", "()I"⟩, 27) := ⟨⟨by decide +kernel, by decide +kernel⟩, List.mem_of_getElem? (i := 419) (by decide +kernel), List.mem_of_getElem? (i := 626) (by decide +kernel), List.mem_of_getElem? (i := 627) (by decide +kernel)⟩
theorem lw_p35 : lw_okq (⟨"RvCoreModel", "multiplied", "(II)I"⟩, 27) := ⟨⟨by decide +kernel, by decide +kernel⟩, List.mem_of_getElem? (i := 419) (by decide +kernel), List.mem_of_getElem? (i := 630) (by decide +kernel), List.mem_of_getElem? (i := 631) (by decide +kernel)⟩
theorem lw_p36 : lw_okq (⟨"RvCoreModel", "system", "()I"⟩, 27) := ⟨⟨by decide +kernel, by decide +kernel⟩, List.mem_of_getElem? (i := 419) (by decide +kernel), List.mem_of_getElem? (i := 634) (by decide +kernel), List.mem_of_getElem? (i := 635) (by decide +kernel)⟩
theorem lw_p37 : lw_okq (⟨"RvCoreModel", "control", "()I"⟩, 27) := ⟨⟨by decide +kernel, by decide +kernel⟩, List.mem_of_getElem? (i := 419) (by decide +kernel), List.mem_of_getElem? (i := 638) (by decide +kernel), List.mem_of_getElem? (i := 639) (by decide +kernel)⟩
theorem lw_p38 : lw_okq (⟨"RvCoreModel", "setCsr", "(II)V"⟩, 27) := ⟨⟨by decide +kernel, by decide +kernel⟩, List.mem_of_getElem? (i := 419) (by decide +kernel), List.mem_of_getElem? (i := 645) (by decide +kernel), List.mem_of_getElem? (i := 646) (by decide +kernel)⟩
def lw_privs_3 : List (MethodName × Nat) := [(⟨"RvCoreModel", "reckonBy", "(I)I"⟩, 27), (⟨"RvCoreModel", "reckon", "(II)I"⟩, 27), (⟨"RvCoreModel", "reckonTwo", "()I"⟩, 27), (⟨"RvCoreModel", "multiplied", "(II)I"⟩, 27), (⟨"RvCoreModel", "system", "()I"⟩, 27), (⟨"RvCoreModel", "control", "()I"⟩, 27), (⟨"RvCoreModel", "setCsr", "(II)V"⟩, 27)]
theorem lw_r3 : ∀ q ∈ lw_privs_3, lw_okq q := List.forall_mem_cons.mpr ⟨lw_p32, List.forall_mem_cons.mpr ⟨lw_p33, List.forall_mem_cons.mpr ⟨lw_p34, List.forall_mem_cons.mpr ⟨lw_p35, List.forall_mem_cons.mpr ⟨lw_p36, List.forall_mem_cons.mpr ⟨lw_p37, List.forall_mem_cons.mpr ⟨lw_p38, fun _ h => absurd h List.not_mem_nil⟩⟩⟩⟩⟩⟩⟩
def lw_privs : List (MethodName × Nat) := lw_privs_1 ++ (lw_privs_2 ++ (lw_privs_3))
def lw_tbl : List Cond := k2_sels lw_privs ++ tables_1
theorem lw_privs_ok : ∀ q ∈ lw_privs, lw_okq q := by
  show ∀ q ∈ lw_privs_1 ++ (lw_privs_2 ++ (lw_privs_3)), lw_okq q
  exact List.forall_mem_append.mpr ⟨lw_r1, List.forall_mem_append.mpr ⟨lw_r2, lw_r3⟩⟩
def RX0 : String := "RvCore$Controls"
def TX0 : u_T := fun k => match k with
  | 0 => ("RvCore$Controls", "interruptsOn", "Z", false)
  | 1 => ("RvCore$Controls", "interruptsWereOn", "Z", false)
  | 2 => ("RvCore$Controls", "enabled", "I", false)
  | 3 => ("RvCore$Controls", "vector", "I", false)
  | 4 => ("RvCore$Controls", "scratch", "I", false)
  | 5 => ("RvCore$Controls", "wayBack", "I", false)
  | 6 => ("RvCore$Controls", "cause", "I", false)
  | _ => ("RvCore$Controls", "value", "I", false)
def tyX0 : Nat → FieldType := fun k => match k with
  | 0 => .boolean
  | 1 => .boolean
  | 2 => .int
  | 3 => .int
  | 4 => .int
  | 5 => .int
  | 6 => .int
  | _ => .int
theorem nmX0 : ∀ a, a < 8 → ∀ b, b < 8 → a ≠ b → (TX0 a).2.1 ≠ (TX0 b).2.1 := by decide +kernel
theorem tyX0_ok : ∀ k, k < 8 → parseFieldDescriptor (TX0 k).2.2.1 = some (tyX0 k) := by decide +kernel
abbrev cX0_init : ByteArray := prog_2_method_1_code
def yX0_init : MethodName := ⟨RX0, "<init>", "()V"⟩
abbrev cX0_restart : ByteArray := prog_2_method_2_code
def yX0_restart : MethodName := ⟨RX0, "restart", "()V"⟩
abbrev cX0_lists : ByteArray := prog_2_method_3_code
def yX0_lists : MethodName := ⟨RX0, "lists", "(I)Z"⟩
abbrev cX0_get : ByteArray := prog_2_method_4_code
def yX0_get : MethodName := ⟨RX0, "get", "(IZ)I"⟩
abbrev cX0_set : ByteArray := prog_2_method_5_code
def yX0_set : MethodName := ⟨RX0, "set", "(II)V"⟩
abbrev cX0_timerEnabled : ByteArray := prog_2_method_6_code
def yX0_timerEnabled : MethodName := ⟨RX0, "timerEnabled", "()Z"⟩
abbrev cX0_hasOwnEntries : ByteArray := prog_2_method_7_code
def yX0_hasOwnEntries : MethodName := ⟨RX0, "hasOwnEntries", "()Z"⟩
abbrev cX0_enter : ByteArray := prog_2_method_8_code
def yX0_enter : MethodName := ⟨RX0, "enter", "(III)I"⟩
abbrev cX0_leave : ByteArray := prog_2_method_9_code
def yX0_leave : MethodName := ⟨RX0, "leave", "()I"⟩
def RX1 : String := "RvCore$Memory"
def TX1 : u_T := fun k => match k with
  | _ => ("RvCore$Memory", "words", "[I", true)
def tyX1 : Nat → FieldType := fun k => match k with
  | _ => .array .int
theorem nmX1 : ∀ a, a < 1 → ∀ b, b < 1 → a ≠ b → (TX1 a).2.1 ≠ (TX1 b).2.1 := by decide +kernel
theorem tyX1_ok : ∀ k, k < 1 → parseFieldDescriptor (TX1 k).2.2.1 = some (tyX1 k) := by decide +kernel
abbrev cX1_init : ByteArray := prog_3_method_1_code
def yX1_init : MethodName := ⟨RX1, "<init>", "(I)V"⟩
abbrev cX1_holds : ByteArray := prog_3_method_2_code
def yX1_holds : MethodName := ⟨RX1, "holds", "(I)Z"⟩
abbrev cX1_get : ByteArray := prog_3_method_3_code
def yX1_get : MethodName := ⟨RX1, "get", "(II)I"⟩
abbrev cX1_put : ByteArray := prog_3_method_4_code
def yX1_put : MethodName := ⟨RX1, "put", "(III)V"⟩
abbrev cX1_shift : ByteArray := prog_3_method_5_code
def yX1_shift : MethodName := ⟨RX1, "shift", "(I)I"⟩
abbrev cX1_mask : ByteArray := prog_3_method_6_code
def yX1_mask : MethodName := ⟨RX1, "mask", "(I)I"⟩
def RX2 : String := "RvCore$Port"
def TX2 : u_T := fun k => match k with
  | 0 => ("RvCore$Port", "bytes", "[B", true)
  | _ => ("RvCore$Port", "sent", "I", false)
def tyX2 : Nat → FieldType := fun k => match k with
  | 0 => .array .byte
  | _ => .int
theorem nmX2 : ∀ a, a < 2 → ∀ b, b < 2 → a ≠ b → (TX2 a).2.1 ≠ (TX2 b).2.1 := by decide +kernel
theorem tyX2_ok : ∀ k, k < 2 → parseFieldDescriptor (TX2 k).2.2.1 = some (tyX2 k) := by decide +kernel
abbrev cX2_init : ByteArray := prog_4_method_1_code
def yX2_init : MethodName := ⟨RX2, "<init>", "(I)V"⟩
abbrev cX2_restart : ByteArray := prog_4_method_2_code
def yX2_restart : MethodName := ⟨RX2, "restart", "()V"⟩
abbrev cX2_room : ByteArray := prog_4_method_3_code
def yX2_room : MethodName := ⟨RX2, "room", "()I"⟩
abbrev cX2_send : ByteArray := prog_4_method_4_code
def yX2_send : MethodName := ⟨RX2, "send", "(I)Z"⟩
abbrev cX2_byteAt : ByteArray := prog_4_method_5_code
def yX2_byteAt : MethodName := ⟨RX2, "byteAt", "(I)I"⟩
def RX3 : String := "RvCore$Timer"
def TX3 : u_T := fun k => match k with
  | 0 => ("RvCore$Timer", "time", "J", false)
  | _ => ("RvCore$Timer", "limit", "J", false)
def tyX3 : Nat → FieldType := fun k => match k with
  | 0 => .long
  | _ => .long
theorem nmX3 : ∀ a, a < 2 → ∀ b, b < 2 → a ≠ b → (TX3 a).2.1 ≠ (TX3 b).2.1 := by decide +kernel
theorem tyX3_ok : ∀ k, k < 2 → parseFieldDescriptor (TX3 k).2.2.1 = some (tyX3 k) := by decide +kernel
abbrev cX3_init : ByteArray := prog_5_method_1_code
def yX3_init : MethodName := ⟨RX3, "<init>", "()V"⟩
abbrev cX3_restart : ByteArray := prog_5_method_2_code
def yX3_restart : MethodName := ⟨RX3, "restart", "()V"⟩
abbrev cX3_advance : ByteArray := prog_5_method_3_code
def yX3_advance : MethodName := ⟨RX3, "advance", "()V"⟩
abbrev cX3_isDue : ByteArray := prog_5_method_4_code
def yX3_isDue : MethodName := ⟨RX3, "isDue", "()Z"⟩
abbrev cX3_holds : ByteArray := prog_5_method_5_code
def yX3_holds : MethodName := ⟨RX3, "holds", "(I)Z"⟩
abbrev cX3_half : ByteArray := prog_5_method_6_code
def yX3_half : MethodName := ⟨RX3, "half", "(I)I"⟩
abbrev cX3_setHalf : ByteArray := prog_5_method_7_code
def yX3_setHalf : MethodName := ⟨RX3, "setHalf", "(II)V"⟩
abbrev cX3_isTime : ByteArray := prog_5_method_8_code
def yX3_isTime : MethodName := ⟨RX3, "isTime", "(I)Z"⟩
abbrev cX3_isUpper : ByteArray := prog_5_method_9_code
def yX3_isUpper : MethodName := ⟨RX3, "isUpper", "(I)Z"⟩
abbrev cX3_withHalf : ByteArray := prog_5_method_10_code
def yX3_withHalf : MethodName := ⟨RX3, "withHalf", "(JZI)J"⟩
def RX4 : String := "RvCore"
def TX4 : u_T := fun k => match k with
  | 0 => ("RvCore", "memory", "LRvCore$Memory;", true)
  | 1 => ("RvCore", "timer", "LRvCore$Timer;", true)
  | 2 => ("RvCore", "port", "LRvCore$Port;", true)
  | 3 => ("RvCore", "controls", "LRvCore$Controls;", true)
  | 4 => ("RvCore", "x", "[I", true)
  | 5 => ("RvCore", "place", "I", false)
  | 6 => ("RvCore", "waiting", "Z", false)
  | 7 => ("RvCore", "retired", "J", false)
  | _ => ("RvCore", "latest", "I", false)
def tyX4 : Nat → FieldType := fun k => match k with
  | 0 => .object "RvCore$Memory"
  | 1 => .object "RvCore$Timer"
  | 2 => .object "RvCore$Port"
  | 3 => .object "RvCore$Controls"
  | 4 => .array .int
  | 5 => .int
  | 6 => .boolean
  | 7 => .long
  | _ => .int
theorem nmX4 : ∀ a, a < 9 → ∀ b, b < 9 → a ≠ b → (TX4 a).2.1 ≠ (TX4 b).2.1 := by decide +kernel
theorem tyX4_ok : ∀ k, k < 9 → parseFieldDescriptor (TX4 k).2.2.1 = some (tyX4 k) := by decide +kernel
abbrev cX4_init : ByteArray := prog_1_method_1_code
def yX4_init : MethodName := ⟨RX4, "<init>", "(II)V"⟩
abbrev cX4_reset : ByteArray := prog_1_method_2_code
def yX4_reset : MethodName := ⟨RX4, "reset", "()V"⟩
abbrev cX4_poke : ByteArray := prog_1_method_3_code
def yX4_poke : MethodName := ⟨RX4, "poke", "(II)Z"⟩
abbrev cX4_load : ByteArray := prog_1_method_4_code
def yX4_load : MethodName := ⟨RX4, "load", "(II)Z"⟩
abbrev cX4_peek : ByteArray := prog_1_method_5_code
def yX4_peek : MethodName := ⟨RX4, "peek", "(I)I"⟩
abbrev cX4_step : ByteArray := prog_1_method_6_code
def yX4_step : MethodName := ⟨RX4, "step", "()I"⟩
abbrev cX4_run : ByteArray := prog_1_method_7_code
def yX4_run : MethodName := ⟨RX4, "run", "(I)I"⟩
abbrev cX4_tick : ByteArray := prog_1_method_8_code
def yX4_tick : MethodName := ⟨RX4, "tick", "()V"⟩
abbrev cX4_reg : ByteArray := prog_1_method_9_code
def yX4_reg : MethodName := ⟨RX4, "reg", "(I)I"⟩
abbrev cX4_pc : ByteArray := prog_1_method_10_code
def yX4_pc : MethodName := ⟨RX4, "pc", "()I"⟩
abbrev cX4_csr : ByteArray := prog_1_method_11_code
def yX4_csr : MethodName := ⟨RX4, "csr", "(I)I"⟩
abbrev cX4_told : ByteArray := prog_1_method_12_code
def yX4_told : MethodName := ⟨RX4, "told", "(I)J"⟩
abbrev cX4_outSize : ByteArray := prog_1_method_13_code
def yX4_outSize : MethodName := ⟨RX4, "outSize", "()I"⟩
abbrev cX4_out : ByteArray := prog_1_method_14_code
def yX4_out : MethodName := ⟨RX4, "out", "(I)I"⟩
abbrev cX4_stepOnce : ByteArray := prog_1_method_15_code
def yX4_stepOnce : MethodName := ⟨RX4, "stepOnce", "()I"⟩
abbrev cX4_instruct : ByteArray := prog_1_method_16_code
def yX4_instruct : MethodName := ⟨RX4, "instruct", "()I"⟩
abbrev cX4_retire : ByteArray := prog_1_method_17_code
def yX4_retire : MethodName := ⟨RX4, "retire", "(II)I"⟩
abbrev cX4_retireAt : ByteArray := prog_1_method_18_code
def yX4_retireAt : MethodName := ⟨RX4, "retireAt", "(I)I"⟩
abbrev cX4_trap : ByteArray := prog_1_method_19_code
def yX4_trap : MethodName := ⟨RX4, "trap", "(II)I"⟩
abbrev cX4_illegal : ByteArray := prog_1_method_20_code
def yX4_illegal : MethodName := ⟨RX4, "illegal", "(I)I"⟩
abbrev cX4_f : ByteArray := prog_1_method_21_code
def yX4_f : MethodName := ⟨RX4, "f", "(I)I"⟩
abbrev cX4_g : ByteArray := prog_1_method_22_code
def yX4_g : MethodName := ⟨RX4, "g", "(I)I"⟩
abbrev cX4_s : ByteArray := prog_1_method_23_code
def yX4_s : MethodName := ⟨RX4, "s", "(I)I"⟩
abbrev cX4_offsetI : ByteArray := prog_1_method_24_code
def yX4_offsetI : MethodName := ⟨RX4, "offsetI", "(I)I"⟩
abbrev cX4_offsetS : ByteArray := prog_1_method_25_code
def yX4_offsetS : MethodName := ⟨RX4, "offsetS", "(I)I"⟩
abbrev cX4_offsetB : ByteArray := prog_1_method_26_code
def yX4_offsetB : MethodName := ⟨RX4, "offsetB", "(I)I"⟩
abbrev cX4_offsetJ : ByteArray := prog_1_method_27_code
def yX4_offsetJ : MethodName := ⟨RX4, "offsetJ", "(I)I"⟩
abbrev cX4_a : ByteArray := prog_1_method_28_code
def yX4_a : MethodName := ⟨RX4, "a", "(I)I"⟩
abbrev cX4_b : ByteArray := prog_1_method_29_code
def yX4_b : MethodName := ⟨RX4, "b", "(I)I"⟩
abbrev cX4_setD : ByteArray := prog_1_method_30_code
def yX4_setD : MethodName := ⟨RX4, "setD", "(II)V"⟩
abbrev cX4_jump : ByteArray := prog_1_method_31_code
def yX4_jump : MethodName := ⟨RX4, "jump", "(II)I"⟩
abbrev cX4_branch : ByteArray := prog_1_method_32_code
def yX4_branch : MethodName := ⟨RX4, "branch", "(I)I"⟩
abbrev cX4_compares : ByteArray := prog_1_method_33_code
def yX4_compares : MethodName := ⟨RX4, "compares", "(III)Z"⟩
abbrev cX4_belowUnsigned : ByteArray := prog_1_method_34_code
def yX4_belowUnsigned : MethodName := ⟨RX4, "belowUnsigned", "(II)Z"⟩
abbrev cX4_read : ByteArray := prog_1_method_35_code
def yX4_read : MethodName := ⟨RX4, "read", "(I)I"⟩
abbrev cX4_extended : ByteArray := prog_1_method_36_code
def yX4_extended : MethodName := ⟨RX4, "extended", "(II)I"⟩
abbrev cX4_store : ByteArray := prog_1_method_37_code
def yX4_store : MethodName := ⟨RX4, "store", "(I)I"⟩
abbrev cX4_reckonWithNumber : ByteArray := prog_1_method_38_code
def yX4_reckonWithNumber : MethodName := ⟨RX4, "reckonWithNumber", "(I)I"⟩
abbrev cX4_reckonWithRegister : ByteArray := prog_1_method_39_code
def yX4_reckonWithRegister : MethodName := ⟨RX4, "reckonWithRegister", "(I)I"⟩
abbrev cX4_reckoned : ByteArray := prog_1_method_40_code
def yX4_reckoned : MethodName := ⟨RX4, "reckoned", "(IZII)I"⟩
abbrev cX4_unsigned : ByteArray := prog_1_method_41_code
def yX4_unsigned : MethodName := ⟨RX4, "unsigned", "(I)J"⟩
abbrev cX4_product : ByteArray := prog_1_method_42_code
def yX4_product : MethodName := ⟨RX4, "product", "(III)I"⟩
abbrev cX4_divided : ByteArray := prog_1_method_43_code
def yX4_divided : MethodName := ⟨RX4, "divided", "(III)I"⟩
abbrev cX4_system : ByteArray := prog_1_method_44_code
def yX4_system : MethodName := ⟨RX4, "system", "(I)I"⟩
abbrev cX4_control : ByteArray := prog_1_method_45_code
def yX4_control : MethodName := ⟨RX4, "control", "(I)I"⟩
def RX5 : String := "RvCoreModel"
def TX5 : u_T := fun k => match k with
  | 0 => ("RvCoreModel", "size", "I", true)
  | 1 => ("RvCoreModel", "most", "I", true)
  | 2 => ("RvCoreModel", "memory", "[I", true)
  | 3 => ("RvCoreModel", "x", "[I", true)
  | 4 => ("RvCoreModel", "pc", "I", false)
  | 5 => ("RvCoreModel", "mie", "Z", false)
  | 6 => ("RvCoreModel", "mpie", "Z", false)
  | 7 => ("RvCoreModel", "mieBits", "I", false)
  | 8 => ("RvCoreModel", "mtvec", "I", false)
  | 9 => ("RvCoreModel", "mscratch", "I", false)
  | 10 => ("RvCoreModel", "mepc", "I", false)
  | 11 => ("RvCoreModel", "mcause", "I", false)
  | 12 => ("RvCoreModel", "mtval", "I", false)
  | 13 => ("RvCoreModel", "time", "J", false)
  | 14 => ("RvCoreModel", "limit", "J", false)
  | 15 => ("RvCoreModel", "sent", "[I", true)
  | 16 => ("RvCoreModel", "sentMany", "I", false)
  | 17 => ("RvCoreModel", "retired", "J", false)
  | 18 => ("RvCoreModel", "waits", "Z", false)
  | 19 => ("RvCoreModel", "latest", "I", false)
  | 20 => ("RvCoreModel", "word", "I", false)
  | 21 => ("RvCoreModel", "d", "I", false)
  | 22 => ("RvCoreModel", "f", "I", false)
  | 23 => ("RvCoreModel", "s", "I", false)
  | 24 => ("RvCoreModel", "t", "I", false)
  | 25 => ("RvCoreModel", "g", "I", false)
  | _ => ("RvCoreModel", "next", "I", false)
def tyX5 : Nat → FieldType := fun k => match k with
  | 0 => .int
  | 1 => .int
  | 2 => .array .int
  | 3 => .array .int
  | 4 => .int
  | 5 => .boolean
  | 6 => .boolean
  | 7 => .int
  | 8 => .int
  | 9 => .int
  | 10 => .int
  | 11 => .int
  | 12 => .int
  | 13 => .long
  | 14 => .long
  | 15 => .array .int
  | 16 => .int
  | 17 => .long
  | 18 => .boolean
  | 19 => .int
  | 20 => .int
  | 21 => .int
  | 22 => .int
  | 23 => .int
  | 24 => .int
  | 25 => .int
  | _ => .int
theorem nmX5 : ∀ a, a < 27 → ∀ b, b < 27 → a ≠ b → (TX5 a).2.1 ≠ (TX5 b).2.1 := by decide +kernel
theorem tyX5_ok : ∀ k, k < 27 → parseFieldDescriptor (TX5 k).2.2.1 = some (tyX5 k) := by decide +kernel
abbrev cX5_init : ByteArray := prog_7_method_1_code
def yX5_init : MethodName := ⟨RX5, "<init>", "(II)V"⟩
abbrev cX5_reset : ByteArray := prog_7_method_2_code
def yX5_reset : MethodName := ⟨RX5, "reset", "()V"⟩
abbrev cX5_isThere : ByteArray := prog_7_method_3_code
def yX5_isThere : MethodName := ⟨RX5, "isThere", "(II)Z"⟩
abbrev cX5_poke : ByteArray := prog_7_method_4_code
def yX5_poke : MethodName := ⟨RX5, "poke", "(II)Z"⟩
abbrev cX5_load : ByteArray := prog_7_method_5_code
def yX5_load : MethodName := ⟨RX5, "load", "(II)Z"⟩
abbrev cX5_peek : ByteArray := prog_7_method_6_code
def yX5_peek : MethodName := ⟨RX5, "peek", "(I)I"⟩
abbrev cX5_put : ByteArray := prog_7_method_7_code
def yX5_put : MethodName := ⟨RX5, "put", "(III)V"⟩
abbrev cX5_get : ByteArray := prog_7_method_8_code
def yX5_get : MethodName := ⟨RX5, "get", "(II)I"⟩
abbrev cX5_isDue : ByteArray := prog_7_method_9_code
def yX5_isDue : MethodName := ⟨RX5, "isDue", "()Z"⟩
abbrev cX5_isListed : ByteArray := prog_7_method_10_code
def yX5_isListed : MethodName := ⟨RX5, "isListed", "(I)Z"⟩
abbrev cX5_csr : ByteArray := prog_7_method_11_code
def yX5_csr : MethodName := ⟨RX5, "csr", "(I)I"⟩
abbrev cX5_setCsr : ByteArray := prog_7_method_12_code
def yX5_setCsr : MethodName := ⟨RX5, "setCsr", "(II)V"⟩
abbrev cX5_trap : ByteArray := prog_7_method_13_code
def yX5_trap : MethodName := ⟨RX5, "trap", "(II)I"⟩
abbrev cX5_step : ByteArray := prog_7_method_14_code
def yX5_step : MethodName := ⟨RX5, "step", "()I"⟩
abbrev cX5_once : ByteArray := prog_7_method_15_code
def yX5_once : MethodName := ⟨RX5, "once", "()I"⟩
abbrev cX5_run : ByteArray := prog_7_method_16_code
def yX5_run : MethodName := ⟨RX5, "run", "(I)I"⟩
abbrev cX5_tick : ByteArray := prog_7_method_17_code
def yX5_tick : MethodName := ⟨RX5, "tick", "()V"⟩
abbrev cX5_immediate : ByteArray := prog_7_method_18_code
def yX5_immediate : MethodName := ⟨RX5, "immediate", "()I"⟩
abbrev cX5_instruction : ByteArray := prog_7_method_19_code
def yX5_instruction : MethodName := ⟨RX5, "instruction", "()I"⟩
abbrev cX5_illegal : ByteArray := prog_7_method_20_code
def yX5_illegal : MethodName := ⟨RX5, "illegal", "()I"⟩
abbrev cX5_become : ByteArray := prog_7_method_21_code
def yX5_become : MethodName := ⟨RX5, "become", "(I)I"⟩
abbrev cX5_goTo : ByteArray := prog_7_method_22_code
def yX5_goTo : MethodName := ⟨RX5, "goTo", "(IZ)I"⟩
abbrev cX5_work : ByteArray := prog_7_method_23_code
def yX5_work : MethodName := ⟨RX5, "work", "()I"⟩
abbrev cX5_isBelow : ByteArray := prog_7_method_24_code
def yX5_isBelow : MethodName := ⟨RX5, "isBelow", "(II)Z"⟩
abbrev cX5_branch : ByteArray := prog_7_method_25_code
def yX5_branch : MethodName := ⟨RX5, "branch", "()I"⟩
abbrev cX5_read : ByteArray := prog_7_method_26_code
def yX5_read : MethodName := ⟨RX5, "read", "()I"⟩
abbrev cX5_isDevice : ByteArray := prog_7_method_27_code
def yX5_isDevice : MethodName := ⟨RX5, "isDevice", "(I)Z"⟩
abbrev cX5_isClock : ByteArray := prog_7_method_28_code
def yX5_isClock : MethodName := ⟨RX5, "isClock", "(I)Z"⟩
abbrev cX5_mixed : ByteArray := prog_7_method_29_code
def yX5_mixed : MethodName := ⟨RX5, "mixed", "(JZI)J"⟩
abbrev cX5_store : ByteArray := prog_7_method_30_code
def yX5_store : MethodName := ⟨RX5, "store", "()I"⟩
abbrev cX5_reckonBy : ByteArray := prog_7_method_31_code
def yX5_reckonBy : MethodName := ⟨RX5, "reckonBy", "(I)I"⟩
abbrev cX5_reckon : ByteArray := prog_7_method_32_code
def yX5_reckon : MethodName := ⟨RX5, "reckon", "(II)I"⟩
abbrev cX5_reckonTwo : ByteArray := prog_7_method_33_code
def yX5_reckonTwo : MethodName := ⟨RX5, "reckonTwo", "()I"⟩
abbrev cX5_multiplied : ByteArray := prog_7_method_34_code
def yX5_multiplied : MethodName := ⟨RX5, "multiplied", "(II)I"⟩
abbrev cX5_system : ByteArray := prog_7_method_35_code
def yX5_system : MethodName := ⟨RX5, "system", "()I"⟩
abbrev cX5_control : ByteArray := prog_7_method_36_code
def yX5_control : MethodName := ⟨RX5, "control", "()I"⟩
abbrev cX5_reg : ByteArray := prog_7_method_37_code
def yX5_reg : MethodName := ⟨RX5, "reg", "(I)I"⟩
abbrev cX5_pc : ByteArray := prog_7_method_38_code
def yX5_pc : MethodName := ⟨RX5, "pc", "()I"⟩
abbrev cX5_told : ByteArray := prog_7_method_39_code
def yX5_told : MethodName := ⟨RX5, "told", "(I)J"⟩
abbrev cX5_outSize : ByteArray := prog_7_method_40_code
def yX5_outSize : MethodName := ⟨RX5, "outSize", "()I"⟩
abbrev cX5_out : ByteArray := prog_7_method_41_code
def yX5_out : MethodName := ⟨RX5, "out", "(I)I"⟩
def RJ6 : String := "java/lang/Integer"
def TJ6 : u_T := fun k => match k with
  | _ => ("", "", "", false)
def tyJ6 : Nat → FieldType := fun k => match k with
  | _ => .int
abbrev cJ6_compare_7cf53 : ByteArray := prog_8_method_40_code
def yJ6_compare_7cf53 : MethodName := ⟨RJ6, "compare", "(II)I"⟩
abbrev cJ6_compareUnsigned_7cf53 : ByteArray := prog_8_method_41_code
def yJ6_compareUnsigned_7cf53 : MethodName := ⟨RJ6, "compareUnsigned", "(II)I"⟩
def RJ13 : String := "java/lang/Long"
def TJ13 : u_T := fun k => match k with
  | _ => ("", "", "", false)
def tyJ13 : Nat → FieldType := fun k => match k with
  | _ => .int
abbrev cJ13_compare_74951 : ByteArray := prog_9_method_42_code
def yJ13_compare_74951 : MethodName := ⟨RJ13, "compare", "(JJ)I"⟩
abbrev cJ13_compareUnsigned_74951 : ByteArray := prog_9_method_43_code
def yJ13_compareUnsigned_74951 : MethodName := ⟨RJ13, "compareUnsigned", "(JJ)I"⟩
def RJ9 : String := "java/lang/Math"
def TJ9 : u_T := fun k => match k with
  | _ => ("", "", "", false)
def tyJ9 : Nat → FieldType := fun k => match k with
  | _ => .int
abbrev cJ9_max_7cf53 : ByteArray := prog_10_method_65_code
def yJ9_max_7cf53 : MethodName := ⟨RJ9, "max", "(II)I"⟩
abbrev cJ9_min_7cf53 : ByteArray := prog_10_method_69_code
def yJ9_min_7cf53 : MethodName := ⟨RJ9, "min", "(II)I"⟩
def RL : String := "RvCoreLaw"
abbrev cL_cell : ByteArray := method_2_code
def yL_cell : MethodName := ⟨RL, "cell", "([II)I"⟩
abbrev cL_law : ByteArray := code
def yL_law : MethodName := ⟨RL, "law", "([I)Z"⟩
abbrev vwCl : List vw_C := [(RX0, TX0, 8), (RX1, TX1, 1), (RX2, TX2, 2), (RX3, TX3, 2), (RX4, TX4, 9), (RX5, TX5, 27)]
end
section
/-! decode rows -/
theorem dX0_init_0 : decode cX0_init 0 = .ok (.aload_n 0, 1) := by decide +kernel
theorem dX0_init_1 : decode cX0_init 1 = .ok (.invokespecial 1, 3) := by decide +kernel
theorem dX0_init_4 : decode cX0_init 4 = .ok (.return_, 1) := by decide +kernel
theorem dX0_restart_0 : decode cX0_restart 0 = .ok (.aload_n 0, 1) := by decide +kernel
theorem dX0_restart_1 : decode cX0_restart 1 = .ok (.iconst 0, 1) := by decide +kernel
theorem dX0_restart_2 : decode cX0_restart 2 = .ok (.putfield 7, 3) := by decide +kernel
theorem dX0_restart_5 : decode cX0_restart 5 = .ok (.aload_n 0, 1) := by decide +kernel
theorem dX0_restart_6 : decode cX0_restart 6 = .ok (.iconst 0, 1) := by decide +kernel
theorem dX0_restart_7 : decode cX0_restart 7 = .ok (.putfield 13, 3) := by decide +kernel
theorem dX0_restart_10 : decode cX0_restart 10 = .ok (.aload_n 0, 1) := by decide +kernel
theorem dX0_restart_11 : decode cX0_restart 11 = .ok (.iconst 0, 1) := by decide +kernel
theorem dX0_restart_12 : decode cX0_restart 12 = .ok (.putfield 16, 3) := by decide +kernel
theorem dX0_restart_15 : decode cX0_restart 15 = .ok (.aload_n 0, 1) := by decide +kernel
theorem dX0_restart_16 : decode cX0_restart 16 = .ok (.iconst 0, 1) := by decide +kernel
theorem dX0_restart_17 : decode cX0_restart 17 = .ok (.putfield 20, 3) := by decide +kernel
theorem dX0_restart_20 : decode cX0_restart 20 = .ok (.aload_n 0, 1) := by decide +kernel
theorem dX0_restart_21 : decode cX0_restart 21 = .ok (.iconst 0, 1) := by decide +kernel
theorem dX0_restart_22 : decode cX0_restart 22 = .ok (.putfield 23, 3) := by decide +kernel
theorem dX0_restart_25 : decode cX0_restart 25 = .ok (.aload_n 0, 1) := by decide +kernel
theorem dX0_restart_26 : decode cX0_restart 26 = .ok (.iconst 0, 1) := by decide +kernel
theorem dX0_restart_27 : decode cX0_restart 27 = .ok (.putfield 26, 3) := by decide +kernel
theorem dX0_restart_30 : decode cX0_restart 30 = .ok (.aload_n 0, 1) := by decide +kernel
theorem dX0_restart_31 : decode cX0_restart 31 = .ok (.iconst 0, 1) := by decide +kernel
theorem dX0_restart_32 : decode cX0_restart 32 = .ok (.putfield 29, 3) := by decide +kernel
theorem dX0_restart_35 : decode cX0_restart 35 = .ok (.aload_n 0, 1) := by decide +kernel
theorem dX0_restart_36 : decode cX0_restart 36 = .ok (.iconst 0, 1) := by decide +kernel
theorem dX0_restart_37 : decode cX0_restart 37 = .ok (.putfield 32, 3) := by decide +kernel
theorem dX0_restart_40 : decode cX0_restart 40 = .ok (.return_, 1) := by decide +kernel
theorem dX0_lists_0 : decode cX0_lists 0 = .ok (.iload_n 0, 1) := by decide +kernel
theorem dX0_lists_1 : decode cX0_lists 1 = .ok (.lookupswitch 93 #[(768, 91), (769, 91), (772, 91), (773, 91), (832, 91), (833, 91), (834, 91), (835, 91), (836, 91), (3860, 91)], 91) := by decide +kernel
theorem dX0_lists_92 : decode cX0_lists 92 = .ok (.iconst 1, 1) := by decide +kernel
theorem dX0_lists_93 : decode cX0_lists 93 = .ok (.ireturn, 1) := by decide +kernel
theorem dX0_lists_94 : decode cX0_lists 94 = .ok (.iconst 0, 1) := by decide +kernel
theorem dX0_lists_95 : decode cX0_lists 95 = .ok (.ireturn, 1) := by decide +kernel
theorem dX0_get_0 : decode cX0_get 0 = .ok (.iload_n 1, 1) := by decide +kernel
theorem dX0_get_1 : decode cX0_get 1 = .ok (.lookupswitch 161 #[(768, 83), (769, 116), (772, 119), (773, 124), (832, 129), (833, 134), (834, 139), (835, 144), (836, 149)], 83) := by decide +kernel
theorem dX0_get_84 : decode cX0_get 84 = .ok (.sipush 6144, 3) := by decide +kernel
theorem dX0_get_87 : decode cX0_get 87 = .ok (.aload_n 0, 1) := by decide +kernel
theorem dX0_get_88 : decode cX0_get 88 = .ok (.getfield 7, 3) := by decide +kernel
theorem dX0_get_91 : decode cX0_get 91 = .ok (.ifCond .eq 8, 3) := by decide +kernel
theorem dX0_get_94 : decode cX0_get 94 = .ok (.bipush 8, 2) := by decide +kernel
theorem dX0_get_96 : decode cX0_get 96 = .ok (.goto 4, 3) := by decide +kernel
theorem dX0_get_99 : decode cX0_get 99 = .ok (.iconst 0, 1) := by decide +kernel
theorem dX0_get_100 : decode cX0_get 100 = .ok (.ior, 1) := by decide +kernel
theorem dX0_get_101 : decode cX0_get 101 = .ok (.aload_n 0, 1) := by decide +kernel
theorem dX0_get_102 : decode cX0_get 102 = .ok (.getfield 13, 3) := by decide +kernel
theorem dX0_get_105 : decode cX0_get 105 = .ok (.ifCond .eq 9, 3) := by decide +kernel
theorem dX0_get_108 : decode cX0_get 108 = .ok (.sipush 128, 3) := by decide +kernel
theorem dX0_get_111 : decode cX0_get 111 = .ok (.goto 4, 3) := by decide +kernel
theorem dX0_get_114 : decode cX0_get 114 = .ok (.iconst 0, 1) := by decide +kernel
theorem dX0_get_115 : decode cX0_get 115 = .ok (.ior, 1) := by decide +kernel
theorem dX0_get_116 : decode cX0_get 116 = .ok (.ireturn, 1) := by decide +kernel
theorem dX0_get_117 : decode cX0_get 117 = .ok (.ldc 35, 2) := by decide +kernel
theorem dX0_get_119 : decode cX0_get 119 = .ok (.ireturn, 1) := by decide +kernel
theorem dX0_get_120 : decode cX0_get 120 = .ok (.aload_n 0, 1) := by decide +kernel
theorem dX0_get_121 : decode cX0_get 121 = .ok (.getfield 16, 3) := by decide +kernel
theorem dX0_get_124 : decode cX0_get 124 = .ok (.ireturn, 1) := by decide +kernel
theorem dX0_get_125 : decode cX0_get 125 = .ok (.aload_n 0, 1) := by decide +kernel
theorem dX0_get_126 : decode cX0_get 126 = .ok (.getfield 20, 3) := by decide +kernel
theorem dX0_get_129 : decode cX0_get 129 = .ok (.ireturn, 1) := by decide +kernel
theorem dX0_get_130 : decode cX0_get 130 = .ok (.aload_n 0, 1) := by decide +kernel
theorem dX0_get_131 : decode cX0_get 131 = .ok (.getfield 23, 3) := by decide +kernel
theorem dX0_get_134 : decode cX0_get 134 = .ok (.ireturn, 1) := by decide +kernel
theorem dX0_get_135 : decode cX0_get 135 = .ok (.aload_n 0, 1) := by decide +kernel
theorem dX0_get_136 : decode cX0_get 136 = .ok (.getfield 26, 3) := by decide +kernel
theorem dX0_get_139 : decode cX0_get 139 = .ok (.ireturn, 1) := by decide +kernel
theorem dX0_get_140 : decode cX0_get 140 = .ok (.aload_n 0, 1) := by decide +kernel
theorem dX0_get_141 : decode cX0_get 141 = .ok (.getfield 29, 3) := by decide +kernel
theorem dX0_get_144 : decode cX0_get 144 = .ok (.ireturn, 1) := by decide +kernel
theorem dX0_get_145 : decode cX0_get 145 = .ok (.aload_n 0, 1) := by decide +kernel
theorem dX0_get_146 : decode cX0_get 146 = .ok (.getfield 32, 3) := by decide +kernel
theorem dX0_get_149 : decode cX0_get 149 = .ok (.ireturn, 1) := by decide +kernel
theorem dX0_get_150 : decode cX0_get 150 = .ok (.iload_n 2, 1) := by decide +kernel
theorem dX0_get_151 : decode cX0_get 151 = .ok (.ifCond .eq 9, 3) := by decide +kernel
theorem dX0_get_154 : decode cX0_get 154 = .ok (.sipush 128, 3) := by decide +kernel
theorem dX0_get_157 : decode cX0_get 157 = .ok (.goto 4, 3) := by decide +kernel
theorem dX0_get_160 : decode cX0_get 160 = .ok (.iconst 0, 1) := by decide +kernel
theorem dX0_get_161 : decode cX0_get 161 = .ok (.ireturn, 1) := by decide +kernel
theorem dX0_get_162 : decode cX0_get 162 = .ok (.iconst 0, 1) := by decide +kernel
theorem dX0_get_163 : decode cX0_get 163 = .ok (.ireturn, 1) := by decide +kernel
theorem dX0_set_0 : decode cX0_set 0 = .ok (.iload_n 1, 1) := by decide +kernel
theorem dX0_set_1 : decode cX0_set 1 = .ok (.lookupswitch 164 #[(768, 67), (772, 103), (773, 115), (832, 126), (833, 134), (834, 145), (835, 156)], 67) := by decide +kernel
theorem dX0_set_68 : decode cX0_set 68 = .ok (.aload_n 0, 1) := by decide +kernel
theorem dX0_set_69 : decode cX0_set 69 = .ok (.iload_n 2, 1) := by decide +kernel
theorem dX0_set_70 : decode cX0_set 70 = .ok (.bipush 8, 2) := by decide +kernel
theorem dX0_set_72 : decode cX0_set 72 = .ok (.iand, 1) := by decide +kernel
theorem dX0_set_73 : decode cX0_set 73 = .ok (.ifCond .eq 7, 3) := by decide +kernel
theorem dX0_set_76 : decode cX0_set 76 = .ok (.iconst 1, 1) := by decide +kernel
theorem dX0_set_77 : decode cX0_set 77 = .ok (.goto 4, 3) := by decide +kernel
theorem dX0_set_80 : decode cX0_set 80 = .ok (.iconst 0, 1) := by decide +kernel
theorem dX0_set_81 : decode cX0_set 81 = .ok (.putfield 7, 3) := by decide +kernel
theorem dX0_set_84 : decode cX0_set 84 = .ok (.aload_n 0, 1) := by decide +kernel
theorem dX0_set_85 : decode cX0_set 85 = .ok (.iload_n 2, 1) := by decide +kernel
theorem dX0_set_86 : decode cX0_set 86 = .ok (.sipush 128, 3) := by decide +kernel
theorem dX0_set_89 : decode cX0_set 89 = .ok (.iand, 1) := by decide +kernel
theorem dX0_set_90 : decode cX0_set 90 = .ok (.ifCond .eq 7, 3) := by decide +kernel
theorem dX0_set_93 : decode cX0_set 93 = .ok (.iconst 1, 1) := by decide +kernel
theorem dX0_set_94 : decode cX0_set 94 = .ok (.goto 4, 3) := by decide +kernel
theorem dX0_set_97 : decode cX0_set 97 = .ok (.iconst 0, 1) := by decide +kernel
theorem dX0_set_98 : decode cX0_set 98 = .ok (.putfield 13, 3) := by decide +kernel
theorem dX0_set_101 : decode cX0_set 101 = .ok (.goto 64, 3) := by decide +kernel
theorem dX0_set_104 : decode cX0_set 104 = .ok (.aload_n 0, 1) := by decide +kernel
theorem dX0_set_105 : decode cX0_set 105 = .ok (.iload_n 2, 1) := by decide +kernel
theorem dX0_set_106 : decode cX0_set 106 = .ok (.sipush 2184, 3) := by decide +kernel
theorem dX0_set_109 : decode cX0_set 109 = .ok (.iand, 1) := by decide +kernel
theorem dX0_set_110 : decode cX0_set 110 = .ok (.putfield 16, 3) := by decide +kernel
theorem dX0_set_113 : decode cX0_set 113 = .ok (.goto 52, 3) := by decide +kernel
theorem dX0_set_116 : decode cX0_set 116 = .ok (.aload_n 0, 1) := by decide +kernel
theorem dX0_set_117 : decode cX0_set 117 = .ok (.iload_n 2, 1) := by decide +kernel
theorem dX0_set_118 : decode cX0_set 118 = .ok (.bipush (-3), 2) := by decide +kernel
theorem dX0_set_120 : decode cX0_set 120 = .ok (.iand, 1) := by decide +kernel
theorem dX0_set_121 : decode cX0_set 121 = .ok (.putfield 20, 3) := by decide +kernel
theorem dX0_set_124 : decode cX0_set 124 = .ok (.goto 41, 3) := by decide +kernel
theorem dX0_set_127 : decode cX0_set 127 = .ok (.aload_n 0, 1) := by decide +kernel
theorem dX0_set_128 : decode cX0_set 128 = .ok (.iload_n 2, 1) := by decide +kernel
theorem dX0_set_129 : decode cX0_set 129 = .ok (.putfield 23, 3) := by decide +kernel
theorem dX0_set_132 : decode cX0_set 132 = .ok (.goto 33, 3) := by decide +kernel
theorem dX0_set_135 : decode cX0_set 135 = .ok (.aload_n 0, 1) := by decide +kernel
theorem dX0_set_136 : decode cX0_set 136 = .ok (.iload_n 2, 1) := by decide +kernel
theorem dX0_set_137 : decode cX0_set 137 = .ok (.bipush (-4), 2) := by decide +kernel
theorem dX0_set_139 : decode cX0_set 139 = .ok (.iand, 1) := by decide +kernel
theorem dX0_set_140 : decode cX0_set 140 = .ok (.putfield 26, 3) := by decide +kernel
theorem dX0_set_143 : decode cX0_set 143 = .ok (.goto 22, 3) := by decide +kernel
theorem dX0_set_146 : decode cX0_set 146 = .ok (.aload_n 0, 1) := by decide +kernel
theorem dX0_set_147 : decode cX0_set 147 = .ok (.iload_n 2, 1) := by decide +kernel
theorem dX0_set_148 : decode cX0_set 148 = .ok (.ldc 36, 2) := by decide +kernel
theorem dX0_set_150 : decode cX0_set 150 = .ok (.iand, 1) := by decide +kernel
theorem dX0_set_151 : decode cX0_set 151 = .ok (.putfield 29, 3) := by decide +kernel
theorem dX0_set_154 : decode cX0_set 154 = .ok (.goto 11, 3) := by decide +kernel
theorem dX0_set_157 : decode cX0_set 157 = .ok (.aload_n 0, 1) := by decide +kernel
theorem dX0_set_158 : decode cX0_set 158 = .ok (.iload_n 2, 1) := by decide +kernel
theorem dX0_set_159 : decode cX0_set 159 = .ok (.putfield 32, 3) := by decide +kernel
theorem dX0_set_162 : decode cX0_set 162 = .ok (.goto 3, 3) := by decide +kernel
theorem dX0_set_165 : decode cX0_set 165 = .ok (.return_, 1) := by decide +kernel
theorem dX0_timerEnabled_0 : decode cX0_timerEnabled 0 = .ok (.aload_n 0, 1) := by decide +kernel
theorem dX0_timerEnabled_1 : decode cX0_timerEnabled 1 = .ok (.getfield 16, 3) := by decide +kernel
theorem dX0_timerEnabled_4 : decode cX0_timerEnabled 4 = .ok (.sipush 128, 3) := by decide +kernel
theorem dX0_timerEnabled_7 : decode cX0_timerEnabled 7 = .ok (.iand, 1) := by decide +kernel
theorem dX0_timerEnabled_8 : decode cX0_timerEnabled 8 = .ok (.ifCond .eq 7, 3) := by decide +kernel
theorem dX0_timerEnabled_11 : decode cX0_timerEnabled 11 = .ok (.iconst 1, 1) := by decide +kernel
theorem dX0_timerEnabled_12 : decode cX0_timerEnabled 12 = .ok (.goto 4, 3) := by decide +kernel
theorem dX0_timerEnabled_15 : decode cX0_timerEnabled 15 = .ok (.iconst 0, 1) := by decide +kernel
theorem dX0_timerEnabled_16 : decode cX0_timerEnabled 16 = .ok (.ireturn, 1) := by decide +kernel
theorem dX0_hasOwnEntries_0 : decode cX0_hasOwnEntries 0 = .ok (.aload_n 0, 1) := by decide +kernel
theorem dX0_hasOwnEntries_1 : decode cX0_hasOwnEntries 1 = .ok (.getfield 20, 3) := by decide +kernel
theorem dX0_hasOwnEntries_4 : decode cX0_hasOwnEntries 4 = .ok (.iconst 1, 1) := by decide +kernel
theorem dX0_hasOwnEntries_5 : decode cX0_hasOwnEntries 5 = .ok (.iand, 1) := by decide +kernel
theorem dX0_hasOwnEntries_6 : decode cX0_hasOwnEntries 6 = .ok (.ifCond .eq 7, 3) := by decide +kernel
theorem dX0_hasOwnEntries_9 : decode cX0_hasOwnEntries 9 = .ok (.iconst 1, 1) := by decide +kernel
theorem dX0_hasOwnEntries_10 : decode cX0_hasOwnEntries 10 = .ok (.goto 4, 3) := by decide +kernel
theorem dX0_hasOwnEntries_13 : decode cX0_hasOwnEntries 13 = .ok (.iconst 0, 1) := by decide +kernel
theorem dX0_hasOwnEntries_14 : decode cX0_hasOwnEntries 14 = .ok (.ireturn, 1) := by decide +kernel
theorem dX0_enter_0 : decode cX0_enter 0 = .ok (.aload_n 0, 1) := by decide +kernel
theorem dX0_enter_1 : decode cX0_enter 1 = .ok (.iload_n 1, 1) := by decide +kernel
theorem dX0_enter_2 : decode cX0_enter 2 = .ok (.putfield 26, 3) := by decide +kernel
theorem dX0_enter_5 : decode cX0_enter 5 = .ok (.aload_n 0, 1) := by decide +kernel
theorem dX0_enter_6 : decode cX0_enter 6 = .ok (.iload_n 2, 1) := by decide +kernel
theorem dX0_enter_7 : decode cX0_enter 7 = .ok (.putfield 29, 3) := by decide +kernel
theorem dX0_enter_10 : decode cX0_enter 10 = .ok (.aload_n 0, 1) := by decide +kernel
theorem dX0_enter_11 : decode cX0_enter 11 = .ok (.iload_n 3, 1) := by decide +kernel
theorem dX0_enter_12 : decode cX0_enter 12 = .ok (.putfield 32, 3) := by decide +kernel
theorem dX0_enter_15 : decode cX0_enter 15 = .ok (.aload_n 0, 1) := by decide +kernel
theorem dX0_enter_16 : decode cX0_enter 16 = .ok (.aload_n 0, 1) := by decide +kernel
theorem dX0_enter_17 : decode cX0_enter 17 = .ok (.getfield 7, 3) := by decide +kernel
theorem dX0_enter_20 : decode cX0_enter 20 = .ok (.putfield 13, 3) := by decide +kernel
theorem dX0_enter_23 : decode cX0_enter 23 = .ok (.aload_n 0, 1) := by decide +kernel
theorem dX0_enter_24 : decode cX0_enter 24 = .ok (.iconst 0, 1) := by decide +kernel
theorem dX0_enter_25 : decode cX0_enter 25 = .ok (.putfield 7, 3) := by decide +kernel
theorem dX0_enter_28 : decode cX0_enter 28 = .ok (.aload_n 0, 1) := by decide +kernel
theorem dX0_enter_29 : decode cX0_enter 29 = .ok (.getfield 20, 3) := by decide +kernel
theorem dX0_enter_32 : decode cX0_enter 32 = .ok (.bipush (-4), 2) := by decide +kernel
theorem dX0_enter_34 : decode cX0_enter 34 = .ok (.iand, 1) := by decide +kernel
theorem dX0_enter_35 : decode cX0_enter 35 = .ok (.ireturn, 1) := by decide +kernel
theorem dX0_leave_0 : decode cX0_leave 0 = .ok (.aload_n 0, 1) := by decide +kernel
theorem dX0_leave_1 : decode cX0_leave 1 = .ok (.aload_n 0, 1) := by decide +kernel
theorem dX0_leave_2 : decode cX0_leave 2 = .ok (.getfield 13, 3) := by decide +kernel
theorem dX0_leave_5 : decode cX0_leave 5 = .ok (.putfield 7, 3) := by decide +kernel
theorem dX0_leave_8 : decode cX0_leave 8 = .ok (.aload_n 0, 1) := by decide +kernel
theorem dX0_leave_9 : decode cX0_leave 9 = .ok (.iconst 1, 1) := by decide +kernel
theorem dX0_leave_10 : decode cX0_leave 10 = .ok (.putfield 13, 3) := by decide +kernel
theorem dX0_leave_13 : decode cX0_leave 13 = .ok (.aload_n 0, 1) := by decide +kernel
theorem dX0_leave_14 : decode cX0_leave 14 = .ok (.getfield 26, 3) := by decide +kernel
theorem dX0_leave_17 : decode cX0_leave 17 = .ok (.ireturn, 1) := by decide +kernel
theorem dX1_init_0 : decode cX1_init 0 = .ok (.aload_n 0, 1) := by decide +kernel
theorem dX1_init_1 : decode cX1_init 1 = .ok (.invokespecial 1, 3) := by decide +kernel
theorem dX1_init_4 : decode cX1_init 4 = .ok (.aload_n 0, 1) := by decide +kernel
theorem dX1_init_5 : decode cX1_init 5 = .ok (.iload_n 1, 1) := by decide +kernel
theorem dX1_init_6 : decode cX1_init 6 = .ok (.iconst 2, 1) := by decide +kernel
theorem dX1_init_7 : decode cX1_init 7 = .ok (.ishr, 1) := by decide +kernel
theorem dX1_init_8 : decode cX1_init 8 = .ok (.newarray .int, 2) := by decide +kernel
theorem dX1_init_10 : decode cX1_init 10 = .ok (.putfield 7, 3) := by decide +kernel
theorem dX1_init_13 : decode cX1_init 13 = .ok (.return_, 1) := by decide +kernel
theorem dX1_holds_0 : decode cX1_holds 0 = .ok (.iload_n 1, 1) := by decide +kernel
theorem dX1_holds_1 : decode cX1_holds 1 = .ok (.ifCond .lt 18, 3) := by decide +kernel
theorem dX1_holds_4 : decode cX1_holds 4 = .ok (.iload_n 1, 1) := by decide +kernel
theorem dX1_holds_5 : decode cX1_holds 5 = .ok (.iconst 2, 1) := by decide +kernel
theorem dX1_holds_6 : decode cX1_holds 6 = .ok (.ishr, 1) := by decide +kernel
theorem dX1_holds_7 : decode cX1_holds 7 = .ok (.aload_n 0, 1) := by decide +kernel
theorem dX1_holds_8 : decode cX1_holds 8 = .ok (.getfield 7, 3) := by decide +kernel
theorem dX1_holds_11 : decode cX1_holds 11 = .ok (.arraylength, 1) := by decide +kernel
theorem dX1_holds_12 : decode cX1_holds 12 = .ok (.if_icmp .ge 7, 3) := by decide +kernel
theorem dX1_holds_15 : decode cX1_holds 15 = .ok (.iconst 1, 1) := by decide +kernel
theorem dX1_holds_16 : decode cX1_holds 16 = .ok (.goto 4, 3) := by decide +kernel
theorem dX1_holds_19 : decode cX1_holds 19 = .ok (.iconst 0, 1) := by decide +kernel
theorem dX1_holds_20 : decode cX1_holds 20 = .ok (.ireturn, 1) := by decide +kernel
theorem dX1_get_0 : decode cX1_get 0 = .ok (.aload_n 0, 1) := by decide +kernel
theorem dX1_get_1 : decode cX1_get 1 = .ok (.getfield 7, 3) := by decide +kernel
theorem dX1_get_4 : decode cX1_get 4 = .ok (.iload_n 1, 1) := by decide +kernel
theorem dX1_get_5 : decode cX1_get 5 = .ok (.iconst 2, 1) := by decide +kernel
theorem dX1_get_6 : decode cX1_get 6 = .ok (.ishr, 1) := by decide +kernel
theorem dX1_get_7 : decode cX1_get 7 = .ok (.iaload, 1) := by decide +kernel
theorem dX1_get_8 : decode cX1_get 8 = .ok (.iload_n 1, 1) := by decide +kernel
theorem dX1_get_9 : decode cX1_get 9 = .ok (.invokestatic 13, 3) := by decide +kernel
theorem dX1_get_12 : decode cX1_get 12 = .ok (.iushr, 1) := by decide +kernel
theorem dX1_get_13 : decode cX1_get 13 = .ok (.iload_n 2, 1) := by decide +kernel
theorem dX1_get_14 : decode cX1_get 14 = .ok (.invokestatic 17, 3) := by decide +kernel
theorem dX1_get_17 : decode cX1_get 17 = .ok (.iand, 1) := by decide +kernel
theorem dX1_get_18 : decode cX1_get 18 = .ok (.ireturn, 1) := by decide +kernel
theorem dX1_put_0 : decode cX1_put 0 = .ok (.iload_n 2, 1) := by decide +kernel
theorem dX1_put_1 : decode cX1_put 1 = .ok (.invokestatic 17, 3) := by decide +kernel
theorem dX1_put_4 : decode cX1_put 4 = .ok (.iload_n 1, 1) := by decide +kernel
theorem dX1_put_5 : decode cX1_put 5 = .ok (.invokestatic 13, 3) := by decide +kernel
theorem dX1_put_8 : decode cX1_put 8 = .ok (.ishl, 1) := by decide +kernel
theorem dX1_put_9 : decode cX1_put 9 = .ok (.istore 4, 2) := by decide +kernel
theorem dX1_put_11 : decode cX1_put 11 = .ok (.aload_n 0, 1) := by decide +kernel
theorem dX1_put_12 : decode cX1_put 12 = .ok (.getfield 7, 3) := by decide +kernel
theorem dX1_put_15 : decode cX1_put 15 = .ok (.iload_n 1, 1) := by decide +kernel
theorem dX1_put_16 : decode cX1_put 16 = .ok (.iconst 2, 1) := by decide +kernel
theorem dX1_put_17 : decode cX1_put 17 = .ok (.ishr, 1) := by decide +kernel
theorem dX1_put_18 : decode cX1_put 18 = .ok (.iaload, 1) := by decide +kernel
theorem dX1_put_19 : decode cX1_put 19 = .ok (.iload 4, 2) := by decide +kernel
theorem dX1_put_21 : decode cX1_put 21 = .ok (.iconst (-1), 1) := by decide +kernel
theorem dX1_put_22 : decode cX1_put 22 = .ok (.ixor, 1) := by decide +kernel
theorem dX1_put_23 : decode cX1_put 23 = .ok (.iand, 1) := by decide +kernel
theorem dX1_put_24 : decode cX1_put 24 = .ok (.istore 5, 2) := by decide +kernel
theorem dX1_put_26 : decode cX1_put 26 = .ok (.aload_n 0, 1) := by decide +kernel
theorem dX1_put_27 : decode cX1_put 27 = .ok (.getfield 7, 3) := by decide +kernel
theorem dX1_put_30 : decode cX1_put 30 = .ok (.iload_n 1, 1) := by decide +kernel
theorem dX1_put_31 : decode cX1_put 31 = .ok (.iconst 2, 1) := by decide +kernel
theorem dX1_put_32 : decode cX1_put 32 = .ok (.ishr, 1) := by decide +kernel
theorem dX1_put_33 : decode cX1_put 33 = .ok (.iload 5, 2) := by decide +kernel
theorem dX1_put_35 : decode cX1_put 35 = .ok (.iload_n 3, 1) := by decide +kernel
theorem dX1_put_36 : decode cX1_put 36 = .ok (.iload_n 1, 1) := by decide +kernel
theorem dX1_put_37 : decode cX1_put 37 = .ok (.invokestatic 13, 3) := by decide +kernel
theorem dX1_put_40 : decode cX1_put 40 = .ok (.ishl, 1) := by decide +kernel
theorem dX1_put_41 : decode cX1_put 41 = .ok (.iload 4, 2) := by decide +kernel
theorem dX1_put_43 : decode cX1_put 43 = .ok (.iand, 1) := by decide +kernel
theorem dX1_put_44 : decode cX1_put 44 = .ok (.ior, 1) := by decide +kernel
theorem dX1_put_45 : decode cX1_put 45 = .ok (.iastore, 1) := by decide +kernel
theorem dX1_put_46 : decode cX1_put 46 = .ok (.return_, 1) := by decide +kernel
theorem dX1_shift_0 : decode cX1_shift 0 = .ok (.iload_n 0, 1) := by decide +kernel
theorem dX1_shift_1 : decode cX1_shift 1 = .ok (.iconst 3, 1) := by decide +kernel
theorem dX1_shift_2 : decode cX1_shift 2 = .ok (.iand, 1) := by decide +kernel
theorem dX1_shift_3 : decode cX1_shift 3 = .ok (.bipush 8, 2) := by decide +kernel
theorem dX1_shift_5 : decode cX1_shift 5 = .ok (.imul, 1) := by decide +kernel
theorem dX1_shift_6 : decode cX1_shift 6 = .ok (.ireturn, 1) := by decide +kernel
theorem dX1_mask_0 : decode cX1_mask 0 = .ok (.iconst (-1), 1) := by decide +kernel
theorem dX1_mask_1 : decode cX1_mask 1 = .ok (.bipush 32, 2) := by decide +kernel
theorem dX1_mask_3 : decode cX1_mask 3 = .ok (.bipush 8, 2) := by decide +kernel
theorem dX1_mask_5 : decode cX1_mask 5 = .ok (.iload_n 0, 1) := by decide +kernel
theorem dX1_mask_6 : decode cX1_mask 6 = .ok (.imul, 1) := by decide +kernel
theorem dX1_mask_7 : decode cX1_mask 7 = .ok (.isub, 1) := by decide +kernel
theorem dX1_mask_8 : decode cX1_mask 8 = .ok (.iushr, 1) := by decide +kernel
theorem dX1_mask_9 : decode cX1_mask 9 = .ok (.ireturn, 1) := by decide +kernel
theorem dX2_init_0 : decode cX2_init 0 = .ok (.aload_n 0, 1) := by decide +kernel
theorem dX2_init_1 : decode cX2_init 1 = .ok (.invokespecial 1, 3) := by decide +kernel
theorem dX2_init_4 : decode cX2_init 4 = .ok (.aload_n 0, 1) := by decide +kernel
theorem dX2_init_5 : decode cX2_init 5 = .ok (.iload_n 1, 1) := by decide +kernel
theorem dX2_init_6 : decode cX2_init 6 = .ok (.newarray .byte, 2) := by decide +kernel
theorem dX2_init_8 : decode cX2_init 8 = .ok (.putfield 7, 3) := by decide +kernel
theorem dX2_init_11 : decode cX2_init 11 = .ok (.return_, 1) := by decide +kernel
theorem dX2_restart_0 : decode cX2_restart 0 = .ok (.aload_n 0, 1) := by decide +kernel
theorem dX2_restart_1 : decode cX2_restart 1 = .ok (.iconst 0, 1) := by decide +kernel
theorem dX2_restart_2 : decode cX2_restart 2 = .ok (.putfield 13, 3) := by decide +kernel
theorem dX2_restart_5 : decode cX2_restart 5 = .ok (.return_, 1) := by decide +kernel
theorem dX2_room_0 : decode cX2_room 0 = .ok (.aload_n 0, 1) := by decide +kernel
theorem dX2_room_1 : decode cX2_room 1 = .ok (.getfield 7, 3) := by decide +kernel
theorem dX2_room_4 : decode cX2_room 4 = .ok (.arraylength, 1) := by decide +kernel
theorem dX2_room_5 : decode cX2_room 5 = .ok (.aload_n 0, 1) := by decide +kernel
theorem dX2_room_6 : decode cX2_room 6 = .ok (.getfield 13, 3) := by decide +kernel
theorem dX2_room_9 : decode cX2_room 9 = .ok (.isub, 1) := by decide +kernel
theorem dX2_room_10 : decode cX2_room 10 = .ok (.ireturn, 1) := by decide +kernel
theorem dX2_send_0 : decode cX2_send 0 = .ok (.aload_n 0, 1) := by decide +kernel
theorem dX2_send_1 : decode cX2_send 1 = .ok (.getfield 13, 3) := by decide +kernel
theorem dX2_send_4 : decode cX2_send 4 = .ok (.aload_n 0, 1) := by decide +kernel
theorem dX2_send_5 : decode cX2_send 5 = .ok (.getfield 7, 3) := by decide +kernel
theorem dX2_send_8 : decode cX2_send 8 = .ok (.arraylength, 1) := by decide +kernel
theorem dX2_send_9 : decode cX2_send 9 = .ok (.if_icmp .lt 5, 3) := by decide +kernel
theorem dX2_send_12 : decode cX2_send 12 = .ok (.iconst 0, 1) := by decide +kernel
theorem dX2_send_13 : decode cX2_send 13 = .ok (.ireturn, 1) := by decide +kernel
theorem dX2_send_14 : decode cX2_send 14 = .ok (.aload_n 0, 1) := by decide +kernel
theorem dX2_send_15 : decode cX2_send 15 = .ok (.getfield 7, 3) := by decide +kernel
theorem dX2_send_18 : decode cX2_send 18 = .ok (.aload_n 0, 1) := by decide +kernel
theorem dX2_send_19 : decode cX2_send 19 = .ok (.getfield 13, 3) := by decide +kernel
theorem dX2_send_22 : decode cX2_send 22 = .ok (.iload_n 1, 1) := by decide +kernel
theorem dX2_send_23 : decode cX2_send 23 = .ok (.i2b, 1) := by decide +kernel
theorem dX2_send_24 : decode cX2_send 24 = .ok (.bastore, 1) := by decide +kernel
theorem dX2_send_25 : decode cX2_send 25 = .ok (.aload_n 0, 1) := by decide +kernel
theorem dX2_send_26 : decode cX2_send 26 = .ok (.dup, 1) := by decide +kernel
theorem dX2_send_27 : decode cX2_send 27 = .ok (.getfield 13, 3) := by decide +kernel
theorem dX2_send_30 : decode cX2_send 30 = .ok (.iconst 1, 1) := by decide +kernel
theorem dX2_send_31 : decode cX2_send 31 = .ok (.iadd, 1) := by decide +kernel
theorem dX2_send_32 : decode cX2_send 32 = .ok (.putfield 13, 3) := by decide +kernel
theorem dX2_send_35 : decode cX2_send 35 = .ok (.iconst 1, 1) := by decide +kernel
theorem dX2_send_36 : decode cX2_send 36 = .ok (.ireturn, 1) := by decide +kernel
theorem dX2_byteAt_0 : decode cX2_byteAt 0 = .ok (.iload_n 1, 1) := by decide +kernel
theorem dX2_byteAt_1 : decode cX2_byteAt 1 = .ok (.ifCond .lt 33, 3) := by decide +kernel
theorem dX2_byteAt_4 : decode cX2_byteAt 4 = .ok (.iload_n 1, 1) := by decide +kernel
theorem dX2_byteAt_5 : decode cX2_byteAt 5 = .ok (.aload_n 0, 1) := by decide +kernel
theorem dX2_byteAt_6 : decode cX2_byteAt 6 = .ok (.getfield 13, 3) := by decide +kernel
theorem dX2_byteAt_9 : decode cX2_byteAt 9 = .ok (.if_icmp .ge 25, 3) := by decide +kernel
theorem dX2_byteAt_12 : decode cX2_byteAt 12 = .ok (.iload_n 1, 1) := by decide +kernel
theorem dX2_byteAt_13 : decode cX2_byteAt 13 = .ok (.aload_n 0, 1) := by decide +kernel
theorem dX2_byteAt_14 : decode cX2_byteAt 14 = .ok (.getfield 7, 3) := by decide +kernel
theorem dX2_byteAt_17 : decode cX2_byteAt 17 = .ok (.arraylength, 1) := by decide +kernel
theorem dX2_byteAt_18 : decode cX2_byteAt 18 = .ok (.if_icmp .ge 16, 3) := by decide +kernel
theorem dX2_byteAt_21 : decode cX2_byteAt 21 = .ok (.aload_n 0, 1) := by decide +kernel
theorem dX2_byteAt_22 : decode cX2_byteAt 22 = .ok (.getfield 7, 3) := by decide +kernel
theorem dX2_byteAt_25 : decode cX2_byteAt 25 = .ok (.iload_n 1, 1) := by decide +kernel
theorem dX2_byteAt_26 : decode cX2_byteAt 26 = .ok (.baload, 1) := by decide +kernel
theorem dX2_byteAt_27 : decode cX2_byteAt 27 = .ok (.sipush 255, 3) := by decide +kernel
theorem dX2_byteAt_30 : decode cX2_byteAt 30 = .ok (.iand, 1) := by decide +kernel
theorem dX2_byteAt_31 : decode cX2_byteAt 31 = .ok (.goto 4, 3) := by decide +kernel
theorem dX2_byteAt_34 : decode cX2_byteAt 34 = .ok (.iconst (-1), 1) := by decide +kernel
theorem dX2_byteAt_35 : decode cX2_byteAt 35 = .ok (.ireturn, 1) := by decide +kernel
theorem dX3_init_0 : decode cX3_init 0 = .ok (.aload_n 0, 1) := by decide +kernel
theorem dX3_init_1 : decode cX3_init 1 = .ok (.invokespecial 1, 3) := by decide +kernel
theorem dX3_init_4 : decode cX3_init 4 = .ok (.return_, 1) := by decide +kernel
theorem dX3_restart_0 : decode cX3_restart 0 = .ok (.aload_n 0, 1) := by decide +kernel
theorem dX3_restart_1 : decode cX3_restart 1 = .ok (.lconst 0, 1) := by decide +kernel
theorem dX3_restart_2 : decode cX3_restart 2 = .ok (.putfield 7, 3) := by decide +kernel
theorem dX3_restart_5 : decode cX3_restart 5 = .ok (.aload_n 0, 1) := by decide +kernel
theorem dX3_restart_6 : decode cX3_restart 6 = .ok (.ldc2_w 13, 3) := by decide +kernel
theorem dX3_restart_9 : decode cX3_restart 9 = .ok (.putfield 15, 3) := by decide +kernel
theorem dX3_restart_12 : decode cX3_restart 12 = .ok (.return_, 1) := by decide +kernel
theorem dX3_advance_0 : decode cX3_advance 0 = .ok (.aload_n 0, 1) := by decide +kernel
theorem dX3_advance_1 : decode cX3_advance 1 = .ok (.dup, 1) := by decide +kernel
theorem dX3_advance_2 : decode cX3_advance 2 = .ok (.getfield 7, 3) := by decide +kernel
theorem dX3_advance_5 : decode cX3_advance 5 = .ok (.lconst 1, 1) := by decide +kernel
theorem dX3_advance_6 : decode cX3_advance 6 = .ok (.ladd, 1) := by decide +kernel
theorem dX3_advance_7 : decode cX3_advance 7 = .ok (.putfield 7, 3) := by decide +kernel
theorem dX3_advance_10 : decode cX3_advance 10 = .ok (.return_, 1) := by decide +kernel
theorem dX3_isDue_0 : decode cX3_isDue 0 = .ok (.aload_n 0, 1) := by decide +kernel
theorem dX3_isDue_1 : decode cX3_isDue 1 = .ok (.getfield 7, 3) := by decide +kernel
theorem dX3_isDue_4 : decode cX3_isDue 4 = .ok (.aload_n 0, 1) := by decide +kernel
theorem dX3_isDue_5 : decode cX3_isDue 5 = .ok (.getfield 15, 3) := by decide +kernel
theorem dX3_isDue_8 : decode cX3_isDue 8 = .ok (.invokestatic 18, 3) := by decide +kernel
theorem dX3_isDue_11 : decode cX3_isDue 11 = .ok (.ifCond .lt 7, 3) := by decide +kernel
theorem dX3_isDue_14 : decode cX3_isDue 14 = .ok (.iconst 1, 1) := by decide +kernel
theorem dX3_isDue_15 : decode cX3_isDue 15 = .ok (.goto 4, 3) := by decide +kernel
theorem dX3_isDue_18 : decode cX3_isDue 18 = .ok (.iconst 0, 1) := by decide +kernel
theorem dX3_isDue_19 : decode cX3_isDue 19 = .ok (.ireturn, 1) := by decide +kernel
theorem dX3_holds_0 : decode cX3_holds 0 = .ok (.iload_n 0, 1) := by decide +kernel
theorem dX3_holds_1 : decode cX3_holds 1 = .ok (.ldc 24, 2) := by decide +kernel
theorem dX3_holds_3 : decode cX3_holds 3 = .ok (.if_icmp .eq 21, 3) := by decide +kernel
theorem dX3_holds_6 : decode cX3_holds 6 = .ok (.iload_n 0, 1) := by decide +kernel
theorem dX3_holds_7 : decode cX3_holds 7 = .ok (.ldc 25, 2) := by decide +kernel
theorem dX3_holds_9 : decode cX3_holds 9 = .ok (.if_icmp .eq 15, 3) := by decide +kernel
theorem dX3_holds_12 : decode cX3_holds 12 = .ok (.iload_n 0, 1) := by decide +kernel
theorem dX3_holds_13 : decode cX3_holds 13 = .ok (.ldc 26, 2) := by decide +kernel
theorem dX3_holds_15 : decode cX3_holds 15 = .ok (.if_icmp .eq 9, 3) := by decide +kernel
theorem dX3_holds_18 : decode cX3_holds 18 = .ok (.iload_n 0, 1) := by decide +kernel
theorem dX3_holds_19 : decode cX3_holds 19 = .ok (.ldc 27, 2) := by decide +kernel
theorem dX3_holds_21 : decode cX3_holds 21 = .ok (.if_icmp .ne 7, 3) := by decide +kernel
theorem dX3_holds_24 : decode cX3_holds 24 = .ok (.iconst 1, 1) := by decide +kernel
theorem dX3_holds_25 : decode cX3_holds 25 = .ok (.goto 4, 3) := by decide +kernel
theorem dX3_holds_28 : decode cX3_holds 28 = .ok (.iconst 0, 1) := by decide +kernel
theorem dX3_holds_29 : decode cX3_holds 29 = .ok (.ireturn, 1) := by decide +kernel
theorem dX3_half_0 : decode cX3_half 0 = .ok (.iload_n 1, 1) := by decide +kernel
theorem dX3_half_1 : decode cX3_half 1 = .ok (.invokestatic 28, 3) := by decide +kernel
theorem dX3_half_4 : decode cX3_half 4 = .ok (.ifCond .eq 10, 3) := by decide +kernel
theorem dX3_half_7 : decode cX3_half 7 = .ok (.aload_n 0, 1) := by decide +kernel
theorem dX3_half_8 : decode cX3_half 8 = .ok (.getfield 7, 3) := by decide +kernel
theorem dX3_half_11 : decode cX3_half 11 = .ok (.goto 7, 3) := by decide +kernel
theorem dX3_half_14 : decode cX3_half 14 = .ok (.aload_n 0, 1) := by decide +kernel
theorem dX3_half_15 : decode cX3_half 15 = .ok (.getfield 15, 3) := by decide +kernel
theorem dX3_half_18 : decode cX3_half 18 = .ok (.lstore_n 2, 1) := by decide +kernel
theorem dX3_half_19 : decode cX3_half 19 = .ok (.iload_n 1, 1) := by decide +kernel
theorem dX3_half_20 : decode cX3_half 20 = .ok (.invokestatic 32, 3) := by decide +kernel
theorem dX3_half_23 : decode cX3_half 23 = .ok (.ifCond .eq 10, 3) := by decide +kernel
theorem dX3_half_26 : decode cX3_half 26 = .ok (.lload_n 2, 1) := by decide +kernel
theorem dX3_half_27 : decode cX3_half 27 = .ok (.bipush 32, 2) := by decide +kernel
theorem dX3_half_29 : decode cX3_half 29 = .ok (.lushr, 1) := by decide +kernel
theorem dX3_half_30 : decode cX3_half 30 = .ok (.goto 4, 3) := by decide +kernel
theorem dX3_half_33 : decode cX3_half 33 = .ok (.lload_n 2, 1) := by decide +kernel
theorem dX3_half_34 : decode cX3_half 34 = .ok (.l2i, 1) := by decide +kernel
theorem dX3_half_35 : decode cX3_half 35 = .ok (.ireturn, 1) := by decide +kernel
theorem dX3_setHalf_0 : decode cX3_setHalf 0 = .ok (.iload_n 1, 1) := by decide +kernel
theorem dX3_setHalf_1 : decode cX3_setHalf 1 = .ok (.invokestatic 28, 3) := by decide +kernel
theorem dX3_setHalf_4 : decode cX3_setHalf 4 = .ok (.ifCond .eq 22, 3) := by decide +kernel
theorem dX3_setHalf_7 : decode cX3_setHalf 7 = .ok (.aload_n 0, 1) := by decide +kernel
theorem dX3_setHalf_8 : decode cX3_setHalf 8 = .ok (.aload_n 0, 1) := by decide +kernel
theorem dX3_setHalf_9 : decode cX3_setHalf 9 = .ok (.getfield 7, 3) := by decide +kernel
theorem dX3_setHalf_12 : decode cX3_setHalf 12 = .ok (.iload_n 1, 1) := by decide +kernel
theorem dX3_setHalf_13 : decode cX3_setHalf 13 = .ok (.invokestatic 32, 3) := by decide +kernel
theorem dX3_setHalf_16 : decode cX3_setHalf 16 = .ok (.iload_n 2, 1) := by decide +kernel
theorem dX3_setHalf_17 : decode cX3_setHalf 17 = .ok (.invokestatic 35, 3) := by decide +kernel
theorem dX3_setHalf_20 : decode cX3_setHalf 20 = .ok (.putfield 7, 3) := by decide +kernel
theorem dX3_setHalf_23 : decode cX3_setHalf 23 = .ok (.goto 19, 3) := by decide +kernel
theorem dX3_setHalf_26 : decode cX3_setHalf 26 = .ok (.aload_n 0, 1) := by decide +kernel
theorem dX3_setHalf_27 : decode cX3_setHalf 27 = .ok (.aload_n 0, 1) := by decide +kernel
theorem dX3_setHalf_28 : decode cX3_setHalf 28 = .ok (.getfield 15, 3) := by decide +kernel
theorem dX3_setHalf_31 : decode cX3_setHalf 31 = .ok (.iload_n 1, 1) := by decide +kernel
theorem dX3_setHalf_32 : decode cX3_setHalf 32 = .ok (.invokestatic 32, 3) := by decide +kernel
theorem dX3_setHalf_35 : decode cX3_setHalf 35 = .ok (.iload_n 2, 1) := by decide +kernel
theorem dX3_setHalf_36 : decode cX3_setHalf 36 = .ok (.invokestatic 35, 3) := by decide +kernel
theorem dX3_setHalf_39 : decode cX3_setHalf 39 = .ok (.putfield 15, 3) := by decide +kernel
theorem dX3_setHalf_42 : decode cX3_setHalf 42 = .ok (.return_, 1) := by decide +kernel
theorem dX3_isTime_0 : decode cX3_isTime 0 = .ok (.iload_n 0, 1) := by decide +kernel
theorem dX3_isTime_1 : decode cX3_isTime 1 = .ok (.ldc 24, 2) := by decide +kernel
theorem dX3_isTime_3 : decode cX3_isTime 3 = .ok (.if_icmp .eq 9, 3) := by decide +kernel
theorem dX3_isTime_6 : decode cX3_isTime 6 = .ok (.iload_n 0, 1) := by decide +kernel
theorem dX3_isTime_7 : decode cX3_isTime 7 = .ok (.ldc 25, 2) := by decide +kernel
theorem dX3_isTime_9 : decode cX3_isTime 9 = .ok (.if_icmp .ne 7, 3) := by decide +kernel
theorem dX3_isTime_12 : decode cX3_isTime 12 = .ok (.iconst 1, 1) := by decide +kernel
theorem dX3_isTime_13 : decode cX3_isTime 13 = .ok (.goto 4, 3) := by decide +kernel
theorem dX3_isTime_16 : decode cX3_isTime 16 = .ok (.iconst 0, 1) := by decide +kernel
theorem dX3_isTime_17 : decode cX3_isTime 17 = .ok (.ireturn, 1) := by decide +kernel
theorem dX3_isUpper_0 : decode cX3_isUpper 0 = .ok (.iload_n 0, 1) := by decide +kernel
theorem dX3_isUpper_1 : decode cX3_isUpper 1 = .ok (.ldc 25, 2) := by decide +kernel
theorem dX3_isUpper_3 : decode cX3_isUpper 3 = .ok (.if_icmp .eq 9, 3) := by decide +kernel
theorem dX3_isUpper_6 : decode cX3_isUpper 6 = .ok (.iload_n 0, 1) := by decide +kernel
theorem dX3_isUpper_7 : decode cX3_isUpper 7 = .ok (.ldc 27, 2) := by decide +kernel
theorem dX3_isUpper_9 : decode cX3_isUpper 9 = .ok (.if_icmp .ne 7, 3) := by decide +kernel
theorem dX3_isUpper_12 : decode cX3_isUpper 12 = .ok (.iconst 1, 1) := by decide +kernel
theorem dX3_isUpper_13 : decode cX3_isUpper 13 = .ok (.goto 4, 3) := by decide +kernel
theorem dX3_isUpper_16 : decode cX3_isUpper 16 = .ok (.iconst 0, 1) := by decide +kernel
theorem dX3_isUpper_17 : decode cX3_isUpper 17 = .ok (.ireturn, 1) := by decide +kernel
theorem dX3_withHalf_0 : decode cX3_withHalf 0 = .ok (.iload_n 2, 1) := by decide +kernel
theorem dX3_withHalf_1 : decode cX3_withHalf 1 = .ok (.ifCond .eq 17, 3) := by decide +kernel
theorem dX3_withHalf_4 : decode cX3_withHalf 4 = .ok (.lload_n 0, 1) := by decide +kernel
theorem dX3_withHalf_5 : decode cX3_withHalf 5 = .ok (.ldc2_w 39, 3) := by decide +kernel
theorem dX3_withHalf_8 : decode cX3_withHalf 8 = .ok (.land, 1) := by decide +kernel
theorem dX3_withHalf_9 : decode cX3_withHalf 9 = .ok (.iload_n 3, 1) := by decide +kernel
theorem dX3_withHalf_10 : decode cX3_withHalf 10 = .ok (.i2l, 1) := by decide +kernel
theorem dX3_withHalf_11 : decode cX3_withHalf 11 = .ok (.bipush 32, 2) := by decide +kernel
theorem dX3_withHalf_13 : decode cX3_withHalf 13 = .ok (.lshl, 1) := by decide +kernel
theorem dX3_withHalf_14 : decode cX3_withHalf 14 = .ok (.lor, 1) := by decide +kernel
theorem dX3_withHalf_15 : decode cX3_withHalf 15 = .ok (.goto 13, 3) := by decide +kernel
theorem dX3_withHalf_18 : decode cX3_withHalf 18 = .ok (.lload_n 0, 1) := by decide +kernel
theorem dX3_withHalf_19 : decode cX3_withHalf 19 = .ok (.ldc2_w 41, 3) := by decide +kernel
theorem dX3_withHalf_22 : decode cX3_withHalf 22 = .ok (.land, 1) := by decide +kernel
theorem dX3_withHalf_23 : decode cX3_withHalf 23 = .ok (.iload_n 3, 1) := by decide +kernel
theorem dX3_withHalf_24 : decode cX3_withHalf 24 = .ok (.invokestatic 43, 3) := by decide +kernel
theorem dX3_withHalf_27 : decode cX3_withHalf 27 = .ok (.lor, 1) := by decide +kernel
theorem dX3_withHalf_28 : decode cX3_withHalf 28 = .ok (.lreturn, 1) := by decide +kernel
theorem dX4_init_0 : decode cX4_init 0 = .ok (.aload_n 0, 1) := by decide +kernel
theorem dX4_init_1 : decode cX4_init 1 = .ok (.invokespecial 1, 3) := by decide +kernel
theorem dX4_init_4 : decode cX4_init 4 = .ok (.aload_n 0, 1) := by decide +kernel
theorem dX4_init_5 : decode cX4_init 5 = .ok (.new 7, 3) := by decide +kernel
theorem dX4_init_8 : decode cX4_init 8 = .ok (.dup, 1) := by decide +kernel
theorem dX4_init_9 : decode cX4_init 9 = .ok (.bipush 64, 2) := by decide +kernel
theorem dX4_init_11 : decode cX4_init 11 = .ok (.ldc 11, 2) := by decide +kernel
theorem dX4_init_13 : decode cX4_init 13 = .ok (.iload_n 1, 1) := by decide +kernel
theorem dX4_init_14 : decode cX4_init 14 = .ok (.invokestatic 12, 3) := by decide +kernel
theorem dX4_init_17 : decode cX4_init 17 = .ok (.invokestatic 18, 3) := by decide +kernel
theorem dX4_init_20 : decode cX4_init 20 = .ok (.invokespecial 21, 3) := by decide +kernel
theorem dX4_init_23 : decode cX4_init 23 = .ok (.putfield 24, 3) := by decide +kernel
theorem dX4_init_26 : decode cX4_init 26 = .ok (.aload_n 0, 1) := by decide +kernel
theorem dX4_init_27 : decode cX4_init 27 = .ok (.new 28, 3) := by decide +kernel
theorem dX4_init_30 : decode cX4_init 30 = .ok (.dup, 1) := by decide +kernel
theorem dX4_init_31 : decode cX4_init 31 = .ok (.invokespecial 30, 3) := by decide +kernel
theorem dX4_init_34 : decode cX4_init 34 = .ok (.putfield 31, 3) := by decide +kernel
theorem dX4_init_37 : decode cX4_init 37 = .ok (.aload_n 0, 1) := by decide +kernel
theorem dX4_init_38 : decode cX4_init 38 = .ok (.new 35, 3) := by decide +kernel
theorem dX4_init_41 : decode cX4_init 41 = .ok (.dup, 1) := by decide +kernel
theorem dX4_init_42 : decode cX4_init 42 = .ok (.iconst 0, 1) := by decide +kernel
theorem dX4_init_43 : decode cX4_init 43 = .ok (.sipush 4096, 3) := by decide +kernel
theorem dX4_init_46 : decode cX4_init 46 = .ok (.iload_n 2, 1) := by decide +kernel
theorem dX4_init_47 : decode cX4_init 47 = .ok (.invokestatic 12, 3) := by decide +kernel
theorem dX4_init_50 : decode cX4_init 50 = .ok (.invokestatic 18, 3) := by decide +kernel
theorem dX4_init_53 : decode cX4_init 53 = .ok (.invokespecial 37, 3) := by decide +kernel
theorem dX4_init_56 : decode cX4_init 56 = .ok (.putfield 38, 3) := by decide +kernel
theorem dX4_init_59 : decode cX4_init 59 = .ok (.aload_n 0, 1) := by decide +kernel
theorem dX4_init_60 : decode cX4_init 60 = .ok (.new 42, 3) := by decide +kernel
theorem dX4_init_63 : decode cX4_init 63 = .ok (.dup, 1) := by decide +kernel
theorem dX4_init_64 : decode cX4_init 64 = .ok (.invokespecial 44, 3) := by decide +kernel
theorem dX4_init_67 : decode cX4_init 67 = .ok (.putfield 45, 3) := by decide +kernel
theorem dX4_init_70 : decode cX4_init 70 = .ok (.aload_n 0, 1) := by decide +kernel
theorem dX4_init_71 : decode cX4_init 71 = .ok (.bipush 32, 2) := by decide +kernel
theorem dX4_init_73 : decode cX4_init 73 = .ok (.newarray .int, 2) := by decide +kernel
theorem dX4_init_75 : decode cX4_init 75 = .ok (.putfield 49, 3) := by decide +kernel
theorem dX4_init_78 : decode cX4_init 78 = .ok (.aload_n 0, 1) := by decide +kernel
theorem dX4_init_79 : decode cX4_init 79 = .ok (.invokevirtual 53, 3) := by decide +kernel
theorem dX4_init_82 : decode cX4_init 82 = .ok (.return_, 1) := by decide +kernel
theorem dX4_reset_0 : decode cX4_reset 0 = .ok (.iconst 0, 1) := by decide +kernel
theorem dX4_reset_1 : decode cX4_reset 1 = .ok (.istore_n 1, 1) := by decide +kernel
theorem dX4_reset_2 : decode cX4_reset 2 = .ok (.iload_n 1, 1) := by decide +kernel
theorem dX4_reset_3 : decode cX4_reset 3 = .ok (.aload_n 0, 1) := by decide +kernel
theorem dX4_reset_4 : decode cX4_reset 4 = .ok (.getfield 49, 3) := by decide +kernel
theorem dX4_reset_7 : decode cX4_reset 7 = .ok (.arraylength, 1) := by decide +kernel
theorem dX4_reset_8 : decode cX4_reset 8 = .ok (.if_icmp .ge 16, 3) := by decide +kernel
theorem dX4_reset_11 : decode cX4_reset 11 = .ok (.aload_n 0, 1) := by decide +kernel
theorem dX4_reset_12 : decode cX4_reset 12 = .ok (.getfield 49, 3) := by decide +kernel
theorem dX4_reset_15 : decode cX4_reset 15 = .ok (.iload_n 1, 1) := by decide +kernel
theorem dX4_reset_16 : decode cX4_reset 16 = .ok (.iconst 0, 1) := by decide +kernel
theorem dX4_reset_17 : decode cX4_reset 17 = .ok (.iastore, 1) := by decide +kernel
theorem dX4_reset_18 : decode cX4_reset 18 = .ok (.iinc 1 1, 3) := by decide +kernel
theorem dX4_reset_21 : decode cX4_reset 21 = .ok (.goto (-19), 3) := by decide +kernel
theorem dX4_reset_24 : decode cX4_reset 24 = .ok (.aload_n 0, 1) := by decide +kernel
theorem dX4_reset_25 : decode cX4_reset 25 = .ok (.iconst 0, 1) := by decide +kernel
theorem dX4_reset_26 : decode cX4_reset 26 = .ok (.putfield 56, 3) := by decide +kernel
theorem dX4_reset_29 : decode cX4_reset 29 = .ok (.aload_n 0, 1) := by decide +kernel
theorem dX4_reset_30 : decode cX4_reset 30 = .ok (.iconst 0, 1) := by decide +kernel
theorem dX4_reset_31 : decode cX4_reset 31 = .ok (.putfield 60, 3) := by decide +kernel
theorem dX4_reset_34 : decode cX4_reset 34 = .ok (.aload_n 0, 1) := by decide +kernel
theorem dX4_reset_35 : decode cX4_reset 35 = .ok (.lconst 0, 1) := by decide +kernel
theorem dX4_reset_36 : decode cX4_reset 36 = .ok (.putfield 64, 3) := by decide +kernel
theorem dX4_reset_39 : decode cX4_reset 39 = .ok (.aload_n 0, 1) := by decide +kernel
theorem dX4_reset_40 : decode cX4_reset 40 = .ok (.iconst 0, 1) := by decide +kernel
theorem dX4_reset_41 : decode cX4_reset 41 = .ok (.putfield 68, 3) := by decide +kernel
theorem dX4_reset_44 : decode cX4_reset 44 = .ok (.aload_n 0, 1) := by decide +kernel
theorem dX4_reset_45 : decode cX4_reset 45 = .ok (.getfield 31, 3) := by decide +kernel
theorem dX4_reset_48 : decode cX4_reset 48 = .ok (.invokevirtual 71, 3) := by decide +kernel
theorem dX4_reset_51 : decode cX4_reset 51 = .ok (.aload_n 0, 1) := by decide +kernel
theorem dX4_reset_52 : decode cX4_reset 52 = .ok (.getfield 38, 3) := by decide +kernel
theorem dX4_reset_55 : decode cX4_reset 55 = .ok (.invokevirtual 74, 3) := by decide +kernel
theorem dX4_reset_58 : decode cX4_reset 58 = .ok (.aload_n 0, 1) := by decide +kernel
theorem dX4_reset_59 : decode cX4_reset 59 = .ok (.getfield 45, 3) := by decide +kernel
theorem dX4_reset_62 : decode cX4_reset 62 = .ok (.invokevirtual 75, 3) := by decide +kernel
theorem dX4_reset_65 : decode cX4_reset 65 = .ok (.return_, 1) := by decide +kernel
theorem dX4_poke_0 : decode cX4_poke 0 = .ok (.aload_n 0, 1) := by decide +kernel
theorem dX4_poke_1 : decode cX4_poke 1 = .ok (.getfield 24, 3) := by decide +kernel
theorem dX4_poke_4 : decode cX4_poke 4 = .ok (.iload_n 1, 1) := by decide +kernel
theorem dX4_poke_5 : decode cX4_poke 5 = .ok (.invokevirtual 76, 3) := by decide +kernel
theorem dX4_poke_8 : decode cX4_poke 8 = .ok (.ifCond .ne 5, 3) := by decide +kernel
theorem dX4_poke_11 : decode cX4_poke 11 = .ok (.iconst 0, 1) := by decide +kernel
theorem dX4_poke_12 : decode cX4_poke 12 = .ok (.ireturn, 1) := by decide +kernel
theorem dX4_poke_13 : decode cX4_poke 13 = .ok (.aload_n 0, 1) := by decide +kernel
theorem dX4_poke_14 : decode cX4_poke 14 = .ok (.getfield 24, 3) := by decide +kernel
theorem dX4_poke_17 : decode cX4_poke 17 = .ok (.iload_n 1, 1) := by decide +kernel
theorem dX4_poke_18 : decode cX4_poke 18 = .ok (.iconst 1, 1) := by decide +kernel
theorem dX4_poke_19 : decode cX4_poke 19 = .ok (.iload_n 2, 1) := by decide +kernel
theorem dX4_poke_20 : decode cX4_poke 20 = .ok (.invokevirtual 80, 3) := by decide +kernel
theorem dX4_poke_23 : decode cX4_poke 23 = .ok (.iconst 1, 1) := by decide +kernel
theorem dX4_poke_24 : decode cX4_poke 24 = .ok (.ireturn, 1) := by decide +kernel
theorem dX4_load_0 : decode cX4_load 0 = .ok (.aload_n 0, 1) := by decide +kernel
theorem dX4_load_1 : decode cX4_load 1 = .ok (.getfield 24, 3) := by decide +kernel
theorem dX4_load_4 : decode cX4_load 4 = .ok (.iload_n 1, 1) := by decide +kernel
theorem dX4_load_5 : decode cX4_load 5 = .ok (.invokevirtual 76, 3) := by decide +kernel
theorem dX4_load_8 : decode cX4_load 8 = .ok (.ifCond .eq 16, 3) := by decide +kernel
theorem dX4_load_11 : decode cX4_load 11 = .ok (.aload_n 0, 1) := by decide +kernel
theorem dX4_load_12 : decode cX4_load 12 = .ok (.getfield 24, 3) := by decide +kernel
theorem dX4_load_15 : decode cX4_load 15 = .ok (.iload_n 1, 1) := by decide +kernel
theorem dX4_load_16 : decode cX4_load 16 = .ok (.iconst 3, 1) := by decide +kernel
theorem dX4_load_17 : decode cX4_load 17 = .ok (.iadd, 1) := by decide +kernel
theorem dX4_load_18 : decode cX4_load 18 = .ok (.invokevirtual 76, 3) := by decide +kernel
theorem dX4_load_21 : decode cX4_load 21 = .ok (.ifCond .ne 5, 3) := by decide +kernel
theorem dX4_load_24 : decode cX4_load 24 = .ok (.iconst 0, 1) := by decide +kernel
theorem dX4_load_25 : decode cX4_load 25 = .ok (.ireturn, 1) := by decide +kernel
theorem dX4_load_26 : decode cX4_load 26 = .ok (.iconst 0, 1) := by decide +kernel
theorem dX4_load_27 : decode cX4_load 27 = .ok (.istore_n 3, 1) := by decide +kernel
theorem dX4_load_28 : decode cX4_load 28 = .ok (.iload_n 3, 1) := by decide +kernel
theorem dX4_load_29 : decode cX4_load 29 = .ok (.iconst 4, 1) := by decide +kernel
theorem dX4_load_30 : decode cX4_load 30 = .ok (.if_icmp .ge 26, 3) := by decide +kernel
theorem dX4_load_33 : decode cX4_load 33 = .ok (.aload_n 0, 1) := by decide +kernel
theorem dX4_load_34 : decode cX4_load 34 = .ok (.getfield 24, 3) := by decide +kernel
theorem dX4_load_37 : decode cX4_load 37 = .ok (.iload_n 1, 1) := by decide +kernel
theorem dX4_load_38 : decode cX4_load 38 = .ok (.iload_n 3, 1) := by decide +kernel
theorem dX4_load_39 : decode cX4_load 39 = .ok (.iadd, 1) := by decide +kernel
theorem dX4_load_40 : decode cX4_load 40 = .ok (.iconst 1, 1) := by decide +kernel
theorem dX4_load_41 : decode cX4_load 41 = .ok (.iload_n 2, 1) := by decide +kernel
theorem dX4_load_42 : decode cX4_load 42 = .ok (.bipush 8, 2) := by decide +kernel
theorem dX4_load_44 : decode cX4_load 44 = .ok (.iload_n 3, 1) := by decide +kernel
theorem dX4_load_45 : decode cX4_load 45 = .ok (.imul, 1) := by decide +kernel
theorem dX4_load_46 : decode cX4_load 46 = .ok (.iushr, 1) := by decide +kernel
theorem dX4_load_47 : decode cX4_load 47 = .ok (.invokevirtual 80, 3) := by decide +kernel
theorem dX4_load_50 : decode cX4_load 50 = .ok (.iinc 3 1, 3) := by decide +kernel
theorem dX4_load_53 : decode cX4_load 53 = .ok (.goto (-25), 3) := by decide +kernel
theorem dX4_load_56 : decode cX4_load 56 = .ok (.iconst 1, 1) := by decide +kernel
theorem dX4_load_57 : decode cX4_load 57 = .ok (.ireturn, 1) := by decide +kernel
theorem dX4_peek_0 : decode cX4_peek 0 = .ok (.aload_n 0, 1) := by decide +kernel
theorem dX4_peek_1 : decode cX4_peek 1 = .ok (.getfield 24, 3) := by decide +kernel
theorem dX4_peek_4 : decode cX4_peek 4 = .ok (.iload_n 1, 1) := by decide +kernel
theorem dX4_peek_5 : decode cX4_peek 5 = .ok (.invokevirtual 76, 3) := by decide +kernel
theorem dX4_peek_8 : decode cX4_peek 8 = .ok (.ifCond .eq 15, 3) := by decide +kernel
theorem dX4_peek_11 : decode cX4_peek 11 = .ok (.aload_n 0, 1) := by decide +kernel
theorem dX4_peek_12 : decode cX4_peek 12 = .ok (.getfield 24, 3) := by decide +kernel
theorem dX4_peek_15 : decode cX4_peek 15 = .ok (.iload_n 1, 1) := by decide +kernel
theorem dX4_peek_16 : decode cX4_peek 16 = .ok (.iconst 1, 1) := by decide +kernel
theorem dX4_peek_17 : decode cX4_peek 17 = .ok (.invokevirtual 84, 3) := by decide +kernel
theorem dX4_peek_20 : decode cX4_peek 20 = .ok (.goto 4, 3) := by decide +kernel
theorem dX4_peek_23 : decode cX4_peek 23 = .ok (.iconst (-1), 1) := by decide +kernel
theorem dX4_peek_24 : decode cX4_peek 24 = .ok (.ireturn, 1) := by decide +kernel
theorem dX4_step_0 : decode cX4_step 0 = .ok (.aload_n 0, 1) := by decide +kernel
theorem dX4_step_1 : decode cX4_step 1 = .ok (.aload_n 0, 1) := by decide +kernel
theorem dX4_step_2 : decode cX4_step 2 = .ok (.invokevirtual 87, 3) := by decide +kernel
theorem dX4_step_5 : decode cX4_step 5 = .ok (.putfield 68, 3) := by decide +kernel
theorem dX4_step_8 : decode cX4_step 8 = .ok (.aload_n 0, 1) := by decide +kernel
theorem dX4_step_9 : decode cX4_step 9 = .ok (.getfield 68, 3) := by decide +kernel
theorem dX4_step_12 : decode cX4_step 12 = .ok (.ireturn, 1) := by decide +kernel
theorem dX4_run_0 : decode cX4_run 0 = .ok (.iload_n 1, 1) := by decide +kernel
theorem dX4_run_1 : decode cX4_run 1 = .ok (.ifCond .lt 9, 3) := by decide +kernel
theorem dX4_run_4 : decode cX4_run 4 = .ok (.iload_n 1, 1) := by decide +kernel
theorem dX4_run_5 : decode cX4_run 5 = .ok (.ldc 91, 2) := by decide +kernel
theorem dX4_run_7 : decode cX4_run 7 = .ok (.if_icmp .le 6, 3) := by decide +kernel
theorem dX4_run_10 : decode cX4_run 10 = .ok (.bipush (-2), 2) := by decide +kernel
theorem dX4_run_12 : decode cX4_run 12 = .ok (.ireturn, 1) := by decide +kernel
theorem dX4_run_13 : decode cX4_run 13 = .ok (.iconst 1, 1) := by decide +kernel
theorem dX4_run_14 : decode cX4_run 14 = .ok (.istore_n 2, 1) := by decide +kernel
theorem dX4_run_15 : decode cX4_run 15 = .ok (.iload_n 2, 1) := by decide +kernel
theorem dX4_run_16 : decode cX4_run 16 = .ok (.iload_n 1, 1) := by decide +kernel
theorem dX4_run_17 : decode cX4_run 17 = .ok (.if_icmp .gt 33, 3) := by decide +kernel
theorem dX4_run_20 : decode cX4_run 20 = .ok (.aload_n 0, 1) := by decide +kernel
theorem dX4_run_21 : decode cX4_run 21 = .ok (.aload_n 0, 1) := by decide +kernel
theorem dX4_run_22 : decode cX4_run 22 = .ok (.invokevirtual 87, 3) := by decide +kernel
theorem dX4_run_25 : decode cX4_run 25 = .ok (.putfield 68, 3) := by decide +kernel
theorem dX4_run_28 : decode cX4_run 28 = .ok (.aload_n 0, 1) := by decide +kernel
theorem dX4_run_29 : decode cX4_run 29 = .ok (.getfield 31, 3) := by decide +kernel
theorem dX4_run_32 : decode cX4_run 32 = .ok (.invokevirtual 92, 3) := by decide +kernel
theorem dX4_run_35 : decode cX4_run 35 = .ok (.aload_n 0, 1) := by decide +kernel
theorem dX4_run_36 : decode cX4_run 36 = .ok (.getfield 68, 3) := by decide +kernel
theorem dX4_run_39 : decode cX4_run 39 = .ok (.ifCond .eq 5, 3) := by decide +kernel
theorem dX4_run_42 : decode cX4_run 42 = .ok (.iload_n 2, 1) := by decide +kernel
theorem dX4_run_43 : decode cX4_run 43 = .ok (.ireturn, 1) := by decide +kernel
theorem dX4_run_44 : decode cX4_run 44 = .ok (.iinc 2 1, 3) := by decide +kernel
theorem dX4_run_47 : decode cX4_run 47 = .ok (.goto (-32), 3) := by decide +kernel
theorem dX4_run_50 : decode cX4_run 50 = .ok (.iload_n 1, 1) := by decide +kernel
theorem dX4_run_51 : decode cX4_run 51 = .ok (.ireturn, 1) := by decide +kernel
theorem dX4_tick_0 : decode cX4_tick 0 = .ok (.aload_n 0, 1) := by decide +kernel
theorem dX4_tick_1 : decode cX4_tick 1 = .ok (.getfield 31, 3) := by decide +kernel
theorem dX4_tick_4 : decode cX4_tick 4 = .ok (.invokevirtual 92, 3) := by decide +kernel
theorem dX4_tick_7 : decode cX4_tick 7 = .ok (.return_, 1) := by decide +kernel
theorem dX4_reg_0 : decode cX4_reg 0 = .ok (.aload_n 0, 1) := by decide +kernel
theorem dX4_reg_1 : decode cX4_reg 1 = .ok (.getfield 49, 3) := by decide +kernel
theorem dX4_reg_4 : decode cX4_reg 4 = .ok (.iload_n 1, 1) := by decide +kernel
theorem dX4_reg_5 : decode cX4_reg 5 = .ok (.bipush 31, 2) := by decide +kernel
theorem dX4_reg_7 : decode cX4_reg 7 = .ok (.iand, 1) := by decide +kernel
theorem dX4_reg_8 : decode cX4_reg 8 = .ok (.iaload, 1) := by decide +kernel
theorem dX4_reg_9 : decode cX4_reg 9 = .ok (.ireturn, 1) := by decide +kernel
theorem dX4_pc_0 : decode cX4_pc 0 = .ok (.aload_n 0, 1) := by decide +kernel
theorem dX4_pc_1 : decode cX4_pc 1 = .ok (.getfield 56, 3) := by decide +kernel
theorem dX4_pc_4 : decode cX4_pc 4 = .ok (.ireturn, 1) := by decide +kernel
theorem dX4_csr_0 : decode cX4_csr 0 = .ok (.iload_n 1, 1) := by decide +kernel
theorem dX4_csr_1 : decode cX4_csr 1 = .ok (.invokestatic 95, 3) := by decide +kernel
theorem dX4_csr_4 : decode cX4_csr 4 = .ok (.ifCond .eq 21, 3) := by decide +kernel
theorem dX4_csr_7 : decode cX4_csr 7 = .ok (.aload_n 0, 1) := by decide +kernel
theorem dX4_csr_8 : decode cX4_csr 8 = .ok (.getfield 45, 3) := by decide +kernel
theorem dX4_csr_11 : decode cX4_csr 11 = .ok (.iload_n 1, 1) := by decide +kernel
theorem dX4_csr_12 : decode cX4_csr 12 = .ok (.aload_n 0, 1) := by decide +kernel
theorem dX4_csr_13 : decode cX4_csr 13 = .ok (.getfield 31, 3) := by decide +kernel
theorem dX4_csr_16 : decode cX4_csr 16 = .ok (.invokevirtual 98, 3) := by decide +kernel
theorem dX4_csr_19 : decode cX4_csr 19 = .ok (.invokevirtual 102, 3) := by decide +kernel
theorem dX4_csr_22 : decode cX4_csr 22 = .ok (.goto 4, 3) := by decide +kernel
theorem dX4_csr_25 : decode cX4_csr 25 = .ok (.iconst 0, 1) := by decide +kernel
theorem dX4_csr_26 : decode cX4_csr 26 = .ok (.ireturn, 1) := by decide +kernel
theorem dX4_told_0 : decode cX4_told 0 = .ok (.iload_n 1, 1) := by decide +kernel
theorem dX4_told_1 : decode cX4_told 1 = .ok (.tableswitch 75 0 4 #[35, 43, 51, 56, 69], 35) := by decide +kernel
theorem dX4_told_36 : decode cX4_told 36 = .ok (.aload_n 0, 1) := by decide +kernel
theorem dX4_told_37 : decode cX4_told 37 = .ok (.getfield 31, 3) := by decide +kernel
theorem dX4_told_40 : decode cX4_told 40 = .ok (.getfield 105, 3) := by decide +kernel
theorem dX4_told_43 : decode cX4_told 43 = .ok (.lreturn, 1) := by decide +kernel
theorem dX4_told_44 : decode cX4_told 44 = .ok (.aload_n 0, 1) := by decide +kernel
theorem dX4_told_45 : decode cX4_told 45 = .ok (.getfield 31, 3) := by decide +kernel
theorem dX4_told_48 : decode cX4_told 48 = .ok (.getfield 108, 3) := by decide +kernel
theorem dX4_told_51 : decode cX4_told 51 = .ok (.lreturn, 1) := by decide +kernel
theorem dX4_told_52 : decode cX4_told 52 = .ok (.aload_n 0, 1) := by decide +kernel
theorem dX4_told_53 : decode cX4_told 53 = .ok (.getfield 64, 3) := by decide +kernel
theorem dX4_told_56 : decode cX4_told 56 = .ok (.lreturn, 1) := by decide +kernel
theorem dX4_told_57 : decode cX4_told 57 = .ok (.aload_n 0, 1) := by decide +kernel
theorem dX4_told_58 : decode cX4_told 58 = .ok (.getfield 60, 3) := by decide +kernel
theorem dX4_told_61 : decode cX4_told 61 = .ok (.ifCond .eq 7, 3) := by decide +kernel
theorem dX4_told_64 : decode cX4_told 64 = .ok (.lconst 1, 1) := by decide +kernel
theorem dX4_told_65 : decode cX4_told 65 = .ok (.goto 4, 3) := by decide +kernel
theorem dX4_told_68 : decode cX4_told 68 = .ok (.lconst 0, 1) := by decide +kernel
theorem dX4_told_69 : decode cX4_told 69 = .ok (.lreturn, 1) := by decide +kernel
theorem dX4_told_70 : decode cX4_told 70 = .ok (.aload_n 0, 1) := by decide +kernel
theorem dX4_told_71 : decode cX4_told 71 = .ok (.getfield 68, 3) := by decide +kernel
theorem dX4_told_74 : decode cX4_told 74 = .ok (.i2l, 1) := by decide +kernel
theorem dX4_told_75 : decode cX4_told 75 = .ok (.lreturn, 1) := by decide +kernel
theorem dX4_told_76 : decode cX4_told 76 = .ok (.lconst 0, 1) := by decide +kernel
theorem dX4_told_77 : decode cX4_told 77 = .ok (.lreturn, 1) := by decide +kernel
theorem dX4_outSize_0 : decode cX4_outSize 0 = .ok (.aload_n 0, 1) := by decide +kernel
theorem dX4_outSize_1 : decode cX4_outSize 1 = .ok (.getfield 38, 3) := by decide +kernel
theorem dX4_outSize_4 : decode cX4_outSize 4 = .ok (.getfield 111, 3) := by decide +kernel
theorem dX4_outSize_7 : decode cX4_outSize 7 = .ok (.ireturn, 1) := by decide +kernel
theorem dX4_out_0 : decode cX4_out 0 = .ok (.aload_n 0, 1) := by decide +kernel
theorem dX4_out_1 : decode cX4_out 1 = .ok (.getfield 38, 3) := by decide +kernel
theorem dX4_out_4 : decode cX4_out 4 = .ok (.iload_n 1, 1) := by decide +kernel
theorem dX4_out_5 : decode cX4_out 5 = .ok (.invokevirtual 114, 3) := by decide +kernel
theorem dX4_out_8 : decode cX4_out 8 = .ok (.ireturn, 1) := by decide +kernel
theorem dX4_stepOnce_0 : decode cX4_stepOnce 0 = .ok (.aload_n 0, 1) := by decide +kernel
theorem dX4_stepOnce_1 : decode cX4_stepOnce 1 = .ok (.getfield 45, 3) := by decide +kernel
theorem dX4_stepOnce_4 : decode cX4_stepOnce 4 = .ok (.invokevirtual 118, 3) := by decide +kernel
theorem dX4_stepOnce_7 : decode cX4_stepOnce 7 = .ok (.ifCond .eq 17, 3) := by decide +kernel
theorem dX4_stepOnce_10 : decode cX4_stepOnce 10 = .ok (.aload_n 0, 1) := by decide +kernel
theorem dX4_stepOnce_11 : decode cX4_stepOnce 11 = .ok (.getfield 31, 3) := by decide +kernel
theorem dX4_stepOnce_14 : decode cX4_stepOnce 14 = .ok (.invokevirtual 98, 3) := by decide +kernel
theorem dX4_stepOnce_17 : decode cX4_stepOnce 17 = .ok (.ifCond .eq 7, 3) := by decide +kernel
theorem dX4_stepOnce_20 : decode cX4_stepOnce 20 = .ok (.iconst 1, 1) := by decide +kernel
theorem dX4_stepOnce_21 : decode cX4_stepOnce 21 = .ok (.goto 4, 3) := by decide +kernel
theorem dX4_stepOnce_24 : decode cX4_stepOnce 24 = .ok (.iconst 0, 1) := by decide +kernel
theorem dX4_stepOnce_25 : decode cX4_stepOnce 25 = .ok (.istore_n 1, 1) := by decide +kernel
theorem dX4_stepOnce_26 : decode cX4_stepOnce 26 = .ok (.iload_n 1, 1) := by decide +kernel
theorem dX4_stepOnce_27 : decode cX4_stepOnce 27 = .ok (.ifCond .eq 57, 3) := by decide +kernel
theorem dX4_stepOnce_30 : decode cX4_stepOnce 30 = .ok (.aload_n 0, 1) := by decide +kernel
theorem dX4_stepOnce_31 : decode cX4_stepOnce 31 = .ok (.getfield 45, 3) := by decide +kernel
theorem dX4_stepOnce_34 : decode cX4_stepOnce 34 = .ok (.getfield 121, 3) := by decide +kernel
theorem dX4_stepOnce_37 : decode cX4_stepOnce 37 = .ok (.ifCond .eq 47, 3) := by decide +kernel
theorem dX4_stepOnce_40 : decode cX4_stepOnce 40 = .ok (.aload_n 0, 1) := by decide +kernel
theorem dX4_stepOnce_41 : decode cX4_stepOnce 41 = .ok (.iconst 0, 1) := by decide +kernel
theorem dX4_stepOnce_42 : decode cX4_stepOnce 42 = .ok (.putfield 60, 3) := by decide +kernel
theorem dX4_stepOnce_45 : decode cX4_stepOnce 45 = .ok (.aload_n 0, 1) := by decide +kernel
theorem dX4_stepOnce_46 : decode cX4_stepOnce 46 = .ok (.getfield 45, 3) := by decide +kernel
theorem dX4_stepOnce_49 : decode cX4_stepOnce 49 = .ok (.aload_n 0, 1) := by decide +kernel
theorem dX4_stepOnce_50 : decode cX4_stepOnce 50 = .ok (.getfield 56, 3) := by decide +kernel
theorem dX4_stepOnce_53 : decode cX4_stepOnce 53 = .ok (.ldc 124, 2) := by decide +kernel
theorem dX4_stepOnce_55 : decode cX4_stepOnce 55 = .ok (.iconst 0, 1) := by decide +kernel
theorem dX4_stepOnce_56 : decode cX4_stepOnce 56 = .ok (.invokevirtual 125, 3) := by decide +kernel
theorem dX4_stepOnce_59 : decode cX4_stepOnce 59 = .ok (.istore_n 2, 1) := by decide +kernel
theorem dX4_stepOnce_60 : decode cX4_stepOnce 60 = .ok (.aload_n 0, 1) := by decide +kernel
theorem dX4_stepOnce_61 : decode cX4_stepOnce 61 = .ok (.aload_n 0, 1) := by decide +kernel
theorem dX4_stepOnce_62 : decode cX4_stepOnce 62 = .ok (.getfield 45, 3) := by decide +kernel
theorem dX4_stepOnce_65 : decode cX4_stepOnce 65 = .ok (.invokevirtual 129, 3) := by decide +kernel
theorem dX4_stepOnce_68 : decode cX4_stepOnce 68 = .ok (.ifCond .eq 10, 3) := by decide +kernel
theorem dX4_stepOnce_71 : decode cX4_stepOnce 71 = .ok (.iload_n 2, 1) := by decide +kernel
theorem dX4_stepOnce_72 : decode cX4_stepOnce 72 = .ok (.bipush 28, 2) := by decide +kernel
theorem dX4_stepOnce_74 : decode cX4_stepOnce 74 = .ok (.iadd, 1) := by decide +kernel
theorem dX4_stepOnce_75 : decode cX4_stepOnce 75 = .ok (.goto 4, 3) := by decide +kernel
theorem dX4_stepOnce_78 : decode cX4_stepOnce 78 = .ok (.iload_n 2, 1) := by decide +kernel
theorem dX4_stepOnce_79 : decode cX4_stepOnce 79 = .ok (.putfield 56, 3) := by decide +kernel
theorem dX4_stepOnce_82 : decode cX4_stepOnce 82 = .ok (.iconst 2, 1) := by decide +kernel
theorem dX4_stepOnce_83 : decode cX4_stepOnce 83 = .ok (.ireturn, 1) := by decide +kernel
theorem dX4_stepOnce_84 : decode cX4_stepOnce 84 = .ok (.aload_n 0, 1) := by decide +kernel
theorem dX4_stepOnce_85 : decode cX4_stepOnce 85 = .ok (.getfield 60, 3) := by decide +kernel
theorem dX4_stepOnce_88 : decode cX4_stepOnce 88 = .ok (.ifCond .eq 9, 3) := by decide +kernel
theorem dX4_stepOnce_91 : decode cX4_stepOnce 91 = .ok (.iload_n 1, 1) := by decide +kernel
theorem dX4_stepOnce_92 : decode cX4_stepOnce 92 = .ok (.ifCond .ne 5, 3) := by decide +kernel
theorem dX4_stepOnce_95 : decode cX4_stepOnce 95 = .ok (.iconst 3, 1) := by decide +kernel
theorem dX4_stepOnce_96 : decode cX4_stepOnce 96 = .ok (.ireturn, 1) := by decide +kernel
theorem dX4_stepOnce_97 : decode cX4_stepOnce 97 = .ok (.aload_n 0, 1) := by decide +kernel
theorem dX4_stepOnce_98 : decode cX4_stepOnce 98 = .ok (.getfield 60, 3) := by decide +kernel
theorem dX4_stepOnce_101 : decode cX4_stepOnce 101 = .ok (.istore_n 2, 1) := by decide +kernel
theorem dX4_stepOnce_102 : decode cX4_stepOnce 102 = .ok (.aload_n 0, 1) := by decide +kernel
theorem dX4_stepOnce_103 : decode cX4_stepOnce 103 = .ok (.iconst 0, 1) := by decide +kernel
theorem dX4_stepOnce_104 : decode cX4_stepOnce 104 = .ok (.putfield 60, 3) := by decide +kernel
theorem dX4_stepOnce_107 : decode cX4_stepOnce 107 = .ok (.aload_n 0, 1) := by decide +kernel
theorem dX4_stepOnce_108 : decode cX4_stepOnce 108 = .ok (.invokevirtual 132, 3) := by decide +kernel
theorem dX4_stepOnce_111 : decode cX4_stepOnce 111 = .ok (.istore_n 3, 1) := by decide +kernel
theorem dX4_stepOnce_112 : decode cX4_stepOnce 112 = .ok (.iload_n 3, 1) := by decide +kernel
theorem dX4_stepOnce_113 : decode cX4_stepOnce 113 = .ok (.iconst 4, 1) := by decide +kernel
theorem dX4_stepOnce_114 : decode cX4_stepOnce 114 = .ok (.if_icmp .ne 8, 3) := by decide +kernel
theorem dX4_stepOnce_117 : decode cX4_stepOnce 117 = .ok (.aload_n 0, 1) := by decide +kernel
theorem dX4_stepOnce_118 : decode cX4_stepOnce 118 = .ok (.iload_n 2, 1) := by decide +kernel
theorem dX4_stepOnce_119 : decode cX4_stepOnce 119 = .ok (.putfield 60, 3) := by decide +kernel
theorem dX4_stepOnce_122 : decode cX4_stepOnce 122 = .ok (.iload_n 3, 1) := by decide +kernel
theorem dX4_stepOnce_123 : decode cX4_stepOnce 123 = .ok (.ireturn, 1) := by decide +kernel
theorem dX4_instruct_0 : decode cX4_instruct 0 = .ok (.aload_n 0, 1) := by decide +kernel
theorem dX4_instruct_1 : decode cX4_instruct 1 = .ok (.getfield 24, 3) := by decide +kernel
theorem dX4_instruct_4 : decode cX4_instruct 4 = .ok (.aload_n 0, 1) := by decide +kernel
theorem dX4_instruct_5 : decode cX4_instruct 5 = .ok (.getfield 56, 3) := by decide +kernel
theorem dX4_instruct_8 : decode cX4_instruct 8 = .ok (.invokevirtual 76, 3) := by decide +kernel
theorem dX4_instruct_11 : decode cX4_instruct 11 = .ok (.ifCond .ne 13, 3) := by decide +kernel
theorem dX4_instruct_14 : decode cX4_instruct 14 = .ok (.aload_n 0, 1) := by decide +kernel
theorem dX4_instruct_15 : decode cX4_instruct 15 = .ok (.iconst 1, 1) := by decide +kernel
theorem dX4_instruct_16 : decode cX4_instruct 16 = .ok (.aload_n 0, 1) := by decide +kernel
theorem dX4_instruct_17 : decode cX4_instruct 17 = .ok (.getfield 56, 3) := by decide +kernel
theorem dX4_instruct_20 : decode cX4_instruct 20 = .ok (.invokevirtual 135, 3) := by decide +kernel
theorem dX4_instruct_23 : decode cX4_instruct 23 = .ok (.ireturn, 1) := by decide +kernel
theorem dX4_instruct_24 : decode cX4_instruct 24 = .ok (.aload_n 0, 1) := by decide +kernel
theorem dX4_instruct_25 : decode cX4_instruct 25 = .ok (.getfield 24, 3) := by decide +kernel
theorem dX4_instruct_28 : decode cX4_instruct 28 = .ok (.aload_n 0, 1) := by decide +kernel
theorem dX4_instruct_29 : decode cX4_instruct 29 = .ok (.getfield 56, 3) := by decide +kernel
theorem dX4_instruct_32 : decode cX4_instruct 32 = .ok (.iconst 4, 1) := by decide +kernel
theorem dX4_instruct_33 : decode cX4_instruct 33 = .ok (.invokevirtual 84, 3) := by decide +kernel
theorem dX4_instruct_36 : decode cX4_instruct 36 = .ok (.istore_n 1, 1) := by decide +kernel
theorem dX4_instruct_37 : decode cX4_instruct 37 = .ok (.iload_n 1, 1) := by decide +kernel
theorem dX4_instruct_38 : decode cX4_instruct 38 = .ok (.bipush 127, 2) := by decide +kernel
theorem dX4_instruct_40 : decode cX4_instruct 40 = .ok (.iand, 1) := by decide +kernel
theorem dX4_instruct_41 : decode cX4_instruct 41 = .ok (.lookupswitch 252 #[(3, 181), (15, 205), (19, 193), (23, 110), (35, 187), (51, 199), (55, 99), (99, 175), (103, 141), (111, 126), (115, 231)], 99) := by decide +kernel
theorem dX4_instruct_140 : decode cX4_instruct 140 = .ok (.aload_n 0, 1) := by decide +kernel
theorem dX4_instruct_141 : decode cX4_instruct 141 = .ok (.iload_n 1, 1) := by decide +kernel
theorem dX4_instruct_142 : decode cX4_instruct 142 = .ok (.iload_n 1, 1) := by decide +kernel
theorem dX4_instruct_143 : decode cX4_instruct 143 = .ok (.sipush (-4096), 3) := by decide +kernel
theorem dX4_instruct_146 : decode cX4_instruct 146 = .ok (.iand, 1) := by decide +kernel
theorem dX4_instruct_147 : decode cX4_instruct 147 = .ok (.invokevirtual 138, 3) := by decide +kernel
theorem dX4_instruct_150 : decode cX4_instruct 150 = .ok (.ireturn, 1) := by decide +kernel
theorem dX4_instruct_151 : decode cX4_instruct 151 = .ok (.aload_n 0, 1) := by decide +kernel
theorem dX4_instruct_152 : decode cX4_instruct 152 = .ok (.iload_n 1, 1) := by decide +kernel
theorem dX4_instruct_153 : decode cX4_instruct 153 = .ok (.aload_n 0, 1) := by decide +kernel
theorem dX4_instruct_154 : decode cX4_instruct 154 = .ok (.getfield 56, 3) := by decide +kernel
theorem dX4_instruct_157 : decode cX4_instruct 157 = .ok (.iload_n 1, 1) := by decide +kernel
theorem dX4_instruct_158 : decode cX4_instruct 158 = .ok (.sipush (-4096), 3) := by decide +kernel
theorem dX4_instruct_161 : decode cX4_instruct 161 = .ok (.iand, 1) := by decide +kernel
theorem dX4_instruct_162 : decode cX4_instruct 162 = .ok (.iadd, 1) := by decide +kernel
theorem dX4_instruct_163 : decode cX4_instruct 163 = .ok (.invokevirtual 138, 3) := by decide +kernel
theorem dX4_instruct_166 : decode cX4_instruct 166 = .ok (.ireturn, 1) := by decide +kernel
theorem dX4_instruct_167 : decode cX4_instruct 167 = .ok (.aload_n 0, 1) := by decide +kernel
theorem dX4_instruct_168 : decode cX4_instruct 168 = .ok (.iload_n 1, 1) := by decide +kernel
theorem dX4_instruct_169 : decode cX4_instruct 169 = .ok (.aload_n 0, 1) := by decide +kernel
theorem dX4_instruct_170 : decode cX4_instruct 170 = .ok (.getfield 56, 3) := by decide +kernel
theorem dX4_instruct_173 : decode cX4_instruct 173 = .ok (.iload_n 1, 1) := by decide +kernel
theorem dX4_instruct_174 : decode cX4_instruct 174 = .ok (.invokestatic 141, 3) := by decide +kernel
theorem dX4_instruct_177 : decode cX4_instruct 177 = .ok (.iadd, 1) := by decide +kernel
theorem dX4_instruct_178 : decode cX4_instruct 178 = .ok (.invokevirtual 144, 3) := by decide +kernel
theorem dX4_instruct_181 : decode cX4_instruct 181 = .ok (.ireturn, 1) := by decide +kernel
theorem dX4_instruct_182 : decode cX4_instruct 182 = .ok (.iload_n 1, 1) := by decide +kernel
theorem dX4_instruct_183 : decode cX4_instruct 183 = .ok (.invokestatic 147, 3) := by decide +kernel
theorem dX4_instruct_186 : decode cX4_instruct 186 = .ok (.ifCond .ne 24, 3) := by decide +kernel
theorem dX4_instruct_189 : decode cX4_instruct 189 = .ok (.aload_n 0, 1) := by decide +kernel
theorem dX4_instruct_190 : decode cX4_instruct 190 = .ok (.iload_n 1, 1) := by decide +kernel
theorem dX4_instruct_191 : decode cX4_instruct 191 = .ok (.aload_n 0, 1) := by decide +kernel
theorem dX4_instruct_192 : decode cX4_instruct 192 = .ok (.iload_n 1, 1) := by decide +kernel
theorem dX4_instruct_193 : decode cX4_instruct 193 = .ok (.invokevirtual 150, 3) := by decide +kernel
theorem dX4_instruct_196 : decode cX4_instruct 196 = .ok (.iload_n 1, 1) := by decide +kernel
theorem dX4_instruct_197 : decode cX4_instruct 197 = .ok (.invokestatic 153, 3) := by decide +kernel
theorem dX4_instruct_200 : decode cX4_instruct 200 = .ok (.iadd, 1) := by decide +kernel
theorem dX4_instruct_201 : decode cX4_instruct 201 = .ok (.bipush (-2), 2) := by decide +kernel
theorem dX4_instruct_203 : decode cX4_instruct 203 = .ok (.iand, 1) := by decide +kernel
theorem dX4_instruct_204 : decode cX4_instruct 204 = .ok (.invokevirtual 144, 3) := by decide +kernel
theorem dX4_instruct_207 : decode cX4_instruct 207 = .ok (.goto 8, 3) := by decide +kernel
theorem dX4_instruct_210 : decode cX4_instruct 210 = .ok (.aload_n 0, 1) := by decide +kernel
theorem dX4_instruct_211 : decode cX4_instruct 211 = .ok (.iload_n 1, 1) := by decide +kernel
theorem dX4_instruct_212 : decode cX4_instruct 212 = .ok (.invokevirtual 156, 3) := by decide +kernel
theorem dX4_instruct_215 : decode cX4_instruct 215 = .ok (.ireturn, 1) := by decide +kernel
theorem dX4_instruct_216 : decode cX4_instruct 216 = .ok (.aload_n 0, 1) := by decide +kernel
theorem dX4_instruct_217 : decode cX4_instruct 217 = .ok (.iload_n 1, 1) := by decide +kernel
theorem dX4_instruct_218 : decode cX4_instruct 218 = .ok (.invokevirtual 159, 3) := by decide +kernel
theorem dX4_instruct_221 : decode cX4_instruct 221 = .ok (.ireturn, 1) := by decide +kernel
theorem dX4_instruct_222 : decode cX4_instruct 222 = .ok (.aload_n 0, 1) := by decide +kernel
theorem dX4_instruct_223 : decode cX4_instruct 223 = .ok (.iload_n 1, 1) := by decide +kernel
theorem dX4_instruct_224 : decode cX4_instruct 224 = .ok (.invokevirtual 162, 3) := by decide +kernel
theorem dX4_instruct_227 : decode cX4_instruct 227 = .ok (.ireturn, 1) := by decide +kernel
theorem dX4_instruct_228 : decode cX4_instruct 228 = .ok (.aload_n 0, 1) := by decide +kernel
theorem dX4_instruct_229 : decode cX4_instruct 229 = .ok (.iload_n 1, 1) := by decide +kernel
theorem dX4_instruct_230 : decode cX4_instruct 230 = .ok (.invokevirtual 165, 3) := by decide +kernel
theorem dX4_instruct_233 : decode cX4_instruct 233 = .ok (.ireturn, 1) := by decide +kernel
theorem dX4_instruct_234 : decode cX4_instruct 234 = .ok (.aload_n 0, 1) := by decide +kernel
theorem dX4_instruct_235 : decode cX4_instruct 235 = .ok (.iload_n 1, 1) := by decide +kernel
theorem dX4_instruct_236 : decode cX4_instruct 236 = .ok (.invokevirtual 168, 3) := by decide +kernel
theorem dX4_instruct_239 : decode cX4_instruct 239 = .ok (.ireturn, 1) := by decide +kernel
theorem dX4_instruct_240 : decode cX4_instruct 240 = .ok (.aload_n 0, 1) := by decide +kernel
theorem dX4_instruct_241 : decode cX4_instruct 241 = .ok (.iload_n 1, 1) := by decide +kernel
theorem dX4_instruct_242 : decode cX4_instruct 242 = .ok (.invokevirtual 171, 3) := by decide +kernel
theorem dX4_instruct_245 : decode cX4_instruct 245 = .ok (.ireturn, 1) := by decide +kernel
theorem dX4_instruct_246 : decode cX4_instruct 246 = .ok (.iload_n 1, 1) := by decide +kernel
theorem dX4_instruct_247 : decode cX4_instruct 247 = .ok (.invokestatic 147, 3) := by decide +kernel
theorem dX4_instruct_250 : decode cX4_instruct 250 = .ok (.ifCond .ne 16, 3) := by decide +kernel
theorem dX4_instruct_253 : decode cX4_instruct 253 = .ok (.aload_n 0, 1) := by decide +kernel
theorem dX4_instruct_254 : decode cX4_instruct 254 = .ok (.aload_n 0, 1) := by decide +kernel
theorem dX4_instruct_255 : decode cX4_instruct 255 = .ok (.getfield 56, 3) := by decide +kernel
theorem dX4_instruct_258 : decode cX4_instruct 258 = .ok (.iconst 4, 1) := by decide +kernel
theorem dX4_instruct_259 : decode cX4_instruct 259 = .ok (.iadd, 1) := by decide +kernel
theorem dX4_instruct_260 : decode cX4_instruct 260 = .ok (.invokevirtual 174, 3) := by decide +kernel
theorem dX4_instruct_263 : decode cX4_instruct 263 = .ok (.goto 8, 3) := by decide +kernel
theorem dX4_instruct_266 : decode cX4_instruct 266 = .ok (.aload_n 0, 1) := by decide +kernel
theorem dX4_instruct_267 : decode cX4_instruct 267 = .ok (.iload_n 1, 1) := by decide +kernel
theorem dX4_instruct_268 : decode cX4_instruct 268 = .ok (.invokevirtual 156, 3) := by decide +kernel
theorem dX4_instruct_271 : decode cX4_instruct 271 = .ok (.ireturn, 1) := by decide +kernel
theorem dX4_instruct_272 : decode cX4_instruct 272 = .ok (.iload_n 1, 1) := by decide +kernel
theorem dX4_instruct_273 : decode cX4_instruct 273 = .ok (.invokestatic 147, 3) := by decide +kernel
theorem dX4_instruct_276 : decode cX4_instruct 276 = .ok (.ifCond .ne 11, 3) := by decide +kernel
theorem dX4_instruct_279 : decode cX4_instruct 279 = .ok (.aload_n 0, 1) := by decide +kernel
theorem dX4_instruct_280 : decode cX4_instruct 280 = .ok (.iload_n 1, 1) := by decide +kernel
theorem dX4_instruct_281 : decode cX4_instruct 281 = .ok (.invokevirtual 177, 3) := by decide +kernel
theorem dX4_instruct_284 : decode cX4_instruct 284 = .ok (.goto 8, 3) := by decide +kernel
theorem dX4_instruct_287 : decode cX4_instruct 287 = .ok (.aload_n 0, 1) := by decide +kernel
theorem dX4_instruct_288 : decode cX4_instruct 288 = .ok (.iload_n 1, 1) := by decide +kernel
theorem dX4_instruct_289 : decode cX4_instruct 289 = .ok (.invokevirtual 180, 3) := by decide +kernel
theorem dX4_instruct_292 : decode cX4_instruct 292 = .ok (.ireturn, 1) := by decide +kernel
theorem dX4_instruct_293 : decode cX4_instruct 293 = .ok (.aload_n 0, 1) := by decide +kernel
theorem dX4_instruct_294 : decode cX4_instruct 294 = .ok (.iload_n 1, 1) := by decide +kernel
theorem dX4_instruct_295 : decode cX4_instruct 295 = .ok (.invokevirtual 156, 3) := by decide +kernel
theorem dX4_instruct_298 : decode cX4_instruct 298 = .ok (.ireturn, 1) := by decide +kernel
theorem dX4_retire_0 : decode cX4_retire 0 = .ok (.aload_n 0, 1) := by decide +kernel
theorem dX4_retire_1 : decode cX4_retire 1 = .ok (.iload_n 1, 1) := by decide +kernel
theorem dX4_retire_2 : decode cX4_retire 2 = .ok (.iload_n 2, 1) := by decide +kernel
theorem dX4_retire_3 : decode cX4_retire 3 = .ok (.invokevirtual 183, 3) := by decide +kernel
theorem dX4_retire_6 : decode cX4_retire 6 = .ok (.aload_n 0, 1) := by decide +kernel
theorem dX4_retire_7 : decode cX4_retire 7 = .ok (.aload_n 0, 1) := by decide +kernel
theorem dX4_retire_8 : decode cX4_retire 8 = .ok (.getfield 56, 3) := by decide +kernel
theorem dX4_retire_11 : decode cX4_retire 11 = .ok (.iconst 4, 1) := by decide +kernel
theorem dX4_retire_12 : decode cX4_retire 12 = .ok (.iadd, 1) := by decide +kernel
theorem dX4_retire_13 : decode cX4_retire 13 = .ok (.invokevirtual 174, 3) := by decide +kernel
theorem dX4_retire_16 : decode cX4_retire 16 = .ok (.ireturn, 1) := by decide +kernel
theorem dX4_retireAt_0 : decode cX4_retireAt 0 = .ok (.aload_n 0, 1) := by decide +kernel
theorem dX4_retireAt_1 : decode cX4_retireAt 1 = .ok (.iload_n 1, 1) := by decide +kernel
theorem dX4_retireAt_2 : decode cX4_retireAt 2 = .ok (.putfield 56, 3) := by decide +kernel
theorem dX4_retireAt_5 : decode cX4_retireAt 5 = .ok (.aload_n 0, 1) := by decide +kernel
theorem dX4_retireAt_6 : decode cX4_retireAt 6 = .ok (.dup, 1) := by decide +kernel
theorem dX4_retireAt_7 : decode cX4_retireAt 7 = .ok (.getfield 64, 3) := by decide +kernel
theorem dX4_retireAt_10 : decode cX4_retireAt 10 = .ok (.lconst 1, 1) := by decide +kernel
theorem dX4_retireAt_11 : decode cX4_retireAt 11 = .ok (.ladd, 1) := by decide +kernel
theorem dX4_retireAt_12 : decode cX4_retireAt 12 = .ok (.putfield 64, 3) := by decide +kernel
theorem dX4_retireAt_15 : decode cX4_retireAt 15 = .ok (.iconst 0, 1) := by decide +kernel
theorem dX4_retireAt_16 : decode cX4_retireAt 16 = .ok (.ireturn, 1) := by decide +kernel
theorem dX4_trap_0 : decode cX4_trap 0 = .ok (.aload_n 0, 1) := by decide +kernel
theorem dX4_trap_1 : decode cX4_trap 1 = .ok (.aload_n 0, 1) := by decide +kernel
theorem dX4_trap_2 : decode cX4_trap 2 = .ok (.getfield 45, 3) := by decide +kernel
theorem dX4_trap_5 : decode cX4_trap 5 = .ok (.aload_n 0, 1) := by decide +kernel
theorem dX4_trap_6 : decode cX4_trap 6 = .ok (.getfield 56, 3) := by decide +kernel
theorem dX4_trap_9 : decode cX4_trap 9 = .ok (.iload_n 1, 1) := by decide +kernel
theorem dX4_trap_10 : decode cX4_trap 10 = .ok (.iload_n 2, 1) := by decide +kernel
theorem dX4_trap_11 : decode cX4_trap 11 = .ok (.invokevirtual 125, 3) := by decide +kernel
theorem dX4_trap_14 : decode cX4_trap 14 = .ok (.putfield 56, 3) := by decide +kernel
theorem dX4_trap_17 : decode cX4_trap 17 = .ok (.iconst 1, 1) := by decide +kernel
theorem dX4_trap_18 : decode cX4_trap 18 = .ok (.ireturn, 1) := by decide +kernel
theorem dX4_illegal_0 : decode cX4_illegal 0 = .ok (.aload_n 0, 1) := by decide +kernel
theorem dX4_illegal_1 : decode cX4_illegal 1 = .ok (.iconst 2, 1) := by decide +kernel
theorem dX4_illegal_2 : decode cX4_illegal 2 = .ok (.iload_n 1, 1) := by decide +kernel
end
section
/-! decode rows -/
theorem dX4_illegal_3 : decode cX4_illegal 3 = .ok (.invokevirtual 135, 3) := by decide +kernel
theorem dX4_illegal_6 : decode cX4_illegal 6 = .ok (.ireturn, 1) := by decide +kernel
theorem dX4_f_0 : decode cX4_f 0 = .ok (.iload_n 0, 1) := by decide +kernel
theorem dX4_f_1 : decode cX4_f 1 = .ok (.bipush 12, 2) := by decide +kernel
theorem dX4_f_3 : decode cX4_f 3 = .ok (.iushr, 1) := by decide +kernel
theorem dX4_f_4 : decode cX4_f 4 = .ok (.bipush 7, 2) := by decide +kernel
theorem dX4_f_6 : decode cX4_f 6 = .ok (.iand, 1) := by decide +kernel
theorem dX4_f_7 : decode cX4_f 7 = .ok (.ireturn, 1) := by decide +kernel
theorem dX4_g_0 : decode cX4_g 0 = .ok (.iload_n 0, 1) := by decide +kernel
theorem dX4_g_1 : decode cX4_g 1 = .ok (.bipush 25, 2) := by decide +kernel
theorem dX4_g_3 : decode cX4_g 3 = .ok (.iushr, 1) := by decide +kernel
theorem dX4_g_4 : decode cX4_g 4 = .ok (.ireturn, 1) := by decide +kernel
theorem dX4_s_0 : decode cX4_s 0 = .ok (.iload_n 0, 1) := by decide +kernel
theorem dX4_s_1 : decode cX4_s 1 = .ok (.bipush 15, 2) := by decide +kernel
theorem dX4_s_3 : decode cX4_s 3 = .ok (.iushr, 1) := by decide +kernel
theorem dX4_s_4 : decode cX4_s 4 = .ok (.bipush 31, 2) := by decide +kernel
theorem dX4_s_6 : decode cX4_s 6 = .ok (.iand, 1) := by decide +kernel
theorem dX4_s_7 : decode cX4_s 7 = .ok (.ireturn, 1) := by decide +kernel
theorem dX4_offsetI_0 : decode cX4_offsetI 0 = .ok (.iload_n 0, 1) := by decide +kernel
theorem dX4_offsetI_1 : decode cX4_offsetI 1 = .ok (.bipush 20, 2) := by decide +kernel
theorem dX4_offsetI_3 : decode cX4_offsetI 3 = .ok (.ishr, 1) := by decide +kernel
theorem dX4_offsetI_4 : decode cX4_offsetI 4 = .ok (.ireturn, 1) := by decide +kernel
theorem dX4_offsetS_0 : decode cX4_offsetS 0 = .ok (.iload_n 0, 1) := by decide +kernel
theorem dX4_offsetS_1 : decode cX4_offsetS 1 = .ok (.bipush 25, 2) := by decide +kernel
theorem dX4_offsetS_3 : decode cX4_offsetS 3 = .ok (.ishr, 1) := by decide +kernel
theorem dX4_offsetS_4 : decode cX4_offsetS 4 = .ok (.iconst 5, 1) := by decide +kernel
theorem dX4_offsetS_5 : decode cX4_offsetS 5 = .ok (.ishl, 1) := by decide +kernel
theorem dX4_offsetS_6 : decode cX4_offsetS 6 = .ok (.iload_n 0, 1) := by decide +kernel
theorem dX4_offsetS_7 : decode cX4_offsetS 7 = .ok (.bipush 7, 2) := by decide +kernel
theorem dX4_offsetS_9 : decode cX4_offsetS 9 = .ok (.iushr, 1) := by decide +kernel
theorem dX4_offsetS_10 : decode cX4_offsetS 10 = .ok (.bipush 31, 2) := by decide +kernel
theorem dX4_offsetS_12 : decode cX4_offsetS 12 = .ok (.iand, 1) := by decide +kernel
theorem dX4_offsetS_13 : decode cX4_offsetS 13 = .ok (.ior, 1) := by decide +kernel
theorem dX4_offsetS_14 : decode cX4_offsetS 14 = .ok (.ireturn, 1) := by decide +kernel
theorem dX4_offsetB_0 : decode cX4_offsetB 0 = .ok (.iload_n 0, 1) := by decide +kernel
theorem dX4_offsetB_1 : decode cX4_offsetB 1 = .ok (.bipush 31, 2) := by decide +kernel
theorem dX4_offsetB_3 : decode cX4_offsetB 3 = .ok (.ishr, 1) := by decide +kernel
theorem dX4_offsetB_4 : decode cX4_offsetB 4 = .ok (.bipush 12, 2) := by decide +kernel
theorem dX4_offsetB_6 : decode cX4_offsetB 6 = .ok (.ishl, 1) := by decide +kernel
theorem dX4_offsetB_7 : decode cX4_offsetB 7 = .ok (.iload_n 0, 1) := by decide +kernel
theorem dX4_offsetB_8 : decode cX4_offsetB 8 = .ok (.bipush 7, 2) := by decide +kernel
theorem dX4_offsetB_10 : decode cX4_offsetB 10 = .ok (.iushr, 1) := by decide +kernel
theorem dX4_offsetB_11 : decode cX4_offsetB 11 = .ok (.iconst 1, 1) := by decide +kernel
theorem dX4_offsetB_12 : decode cX4_offsetB 12 = .ok (.iand, 1) := by decide +kernel
theorem dX4_offsetB_13 : decode cX4_offsetB 13 = .ok (.bipush 11, 2) := by decide +kernel
theorem dX4_offsetB_15 : decode cX4_offsetB 15 = .ok (.ishl, 1) := by decide +kernel
theorem dX4_offsetB_16 : decode cX4_offsetB 16 = .ok (.ior, 1) := by decide +kernel
theorem dX4_offsetB_17 : decode cX4_offsetB 17 = .ok (.iload_n 0, 1) := by decide +kernel
theorem dX4_offsetB_18 : decode cX4_offsetB 18 = .ok (.bipush 25, 2) := by decide +kernel
theorem dX4_offsetB_20 : decode cX4_offsetB 20 = .ok (.iushr, 1) := by decide +kernel
theorem dX4_offsetB_21 : decode cX4_offsetB 21 = .ok (.bipush 63, 2) := by decide +kernel
theorem dX4_offsetB_23 : decode cX4_offsetB 23 = .ok (.iand, 1) := by decide +kernel
theorem dX4_offsetB_24 : decode cX4_offsetB 24 = .ok (.iconst 5, 1) := by decide +kernel
theorem dX4_offsetB_25 : decode cX4_offsetB 25 = .ok (.ishl, 1) := by decide +kernel
theorem dX4_offsetB_26 : decode cX4_offsetB 26 = .ok (.ior, 1) := by decide +kernel
theorem dX4_offsetB_27 : decode cX4_offsetB 27 = .ok (.iload_n 0, 1) := by decide +kernel
theorem dX4_offsetB_28 : decode cX4_offsetB 28 = .ok (.bipush 8, 2) := by decide +kernel
theorem dX4_offsetB_30 : decode cX4_offsetB 30 = .ok (.iushr, 1) := by decide +kernel
theorem dX4_offsetB_31 : decode cX4_offsetB 31 = .ok (.bipush 15, 2) := by decide +kernel
theorem dX4_offsetB_33 : decode cX4_offsetB 33 = .ok (.iand, 1) := by decide +kernel
theorem dX4_offsetB_34 : decode cX4_offsetB 34 = .ok (.iconst 1, 1) := by decide +kernel
theorem dX4_offsetB_35 : decode cX4_offsetB 35 = .ok (.ishl, 1) := by decide +kernel
theorem dX4_offsetB_36 : decode cX4_offsetB 36 = .ok (.ior, 1) := by decide +kernel
theorem dX4_offsetB_37 : decode cX4_offsetB 37 = .ok (.ireturn, 1) := by decide +kernel
theorem dX4_offsetJ_0 : decode cX4_offsetJ 0 = .ok (.iload_n 0, 1) := by decide +kernel
theorem dX4_offsetJ_1 : decode cX4_offsetJ 1 = .ok (.bipush 31, 2) := by decide +kernel
theorem dX4_offsetJ_3 : decode cX4_offsetJ 3 = .ok (.ishr, 1) := by decide +kernel
theorem dX4_offsetJ_4 : decode cX4_offsetJ 4 = .ok (.bipush 20, 2) := by decide +kernel
theorem dX4_offsetJ_6 : decode cX4_offsetJ 6 = .ok (.ishl, 1) := by decide +kernel
theorem dX4_offsetJ_7 : decode cX4_offsetJ 7 = .ok (.iload_n 0, 1) := by decide +kernel
theorem dX4_offsetJ_8 : decode cX4_offsetJ 8 = .ok (.ldc 187, 2) := by decide +kernel
theorem dX4_offsetJ_10 : decode cX4_offsetJ 10 = .ok (.iand, 1) := by decide +kernel
theorem dX4_offsetJ_11 : decode cX4_offsetJ 11 = .ok (.ior, 1) := by decide +kernel
theorem dX4_offsetJ_12 : decode cX4_offsetJ 12 = .ok (.iload_n 0, 1) := by decide +kernel
theorem dX4_offsetJ_13 : decode cX4_offsetJ 13 = .ok (.bipush 20, 2) := by decide +kernel
theorem dX4_offsetJ_15 : decode cX4_offsetJ 15 = .ok (.iushr, 1) := by decide +kernel
theorem dX4_offsetJ_16 : decode cX4_offsetJ 16 = .ok (.iconst 1, 1) := by decide +kernel
theorem dX4_offsetJ_17 : decode cX4_offsetJ 17 = .ok (.iand, 1) := by decide +kernel
theorem dX4_offsetJ_18 : decode cX4_offsetJ 18 = .ok (.bipush 11, 2) := by decide +kernel
theorem dX4_offsetJ_20 : decode cX4_offsetJ 20 = .ok (.ishl, 1) := by decide +kernel
theorem dX4_offsetJ_21 : decode cX4_offsetJ 21 = .ok (.ior, 1) := by decide +kernel
theorem dX4_offsetJ_22 : decode cX4_offsetJ 22 = .ok (.iload_n 0, 1) := by decide +kernel
theorem dX4_offsetJ_23 : decode cX4_offsetJ 23 = .ok (.bipush 21, 2) := by decide +kernel
theorem dX4_offsetJ_25 : decode cX4_offsetJ 25 = .ok (.iushr, 1) := by decide +kernel
theorem dX4_offsetJ_26 : decode cX4_offsetJ 26 = .ok (.sipush 1023, 3) := by decide +kernel
theorem dX4_offsetJ_29 : decode cX4_offsetJ 29 = .ok (.iand, 1) := by decide +kernel
theorem dX4_offsetJ_30 : decode cX4_offsetJ 30 = .ok (.iconst 1, 1) := by decide +kernel
theorem dX4_offsetJ_31 : decode cX4_offsetJ 31 = .ok (.ishl, 1) := by decide +kernel
theorem dX4_offsetJ_32 : decode cX4_offsetJ 32 = .ok (.ior, 1) := by decide +kernel
theorem dX4_offsetJ_33 : decode cX4_offsetJ 33 = .ok (.ireturn, 1) := by decide +kernel
theorem dX4_a_0 : decode cX4_a 0 = .ok (.aload_n 0, 1) := by decide +kernel
theorem dX4_a_1 : decode cX4_a 1 = .ok (.getfield 49, 3) := by decide +kernel
theorem dX4_a_4 : decode cX4_a 4 = .ok (.iload_n 1, 1) := by decide +kernel
theorem dX4_a_5 : decode cX4_a 5 = .ok (.invokestatic 188, 3) := by decide +kernel
theorem dX4_a_8 : decode cX4_a 8 = .ok (.iaload, 1) := by decide +kernel
theorem dX4_a_9 : decode cX4_a 9 = .ok (.ireturn, 1) := by decide +kernel
theorem dX4_b_0 : decode cX4_b 0 = .ok (.aload_n 0, 1) := by decide +kernel
theorem dX4_b_1 : decode cX4_b 1 = .ok (.getfield 49, 3) := by decide +kernel
theorem dX4_b_4 : decode cX4_b 4 = .ok (.iload_n 1, 1) := by decide +kernel
theorem dX4_b_5 : decode cX4_b 5 = .ok (.bipush 20, 2) := by decide +kernel
theorem dX4_b_7 : decode cX4_b 7 = .ok (.iushr, 1) := by decide +kernel
theorem dX4_b_8 : decode cX4_b 8 = .ok (.bipush 31, 2) := by decide +kernel
theorem dX4_b_10 : decode cX4_b 10 = .ok (.iand, 1) := by decide +kernel
theorem dX4_b_11 : decode cX4_b 11 = .ok (.iaload, 1) := by decide +kernel
theorem dX4_b_12 : decode cX4_b 12 = .ok (.ireturn, 1) := by decide +kernel
theorem dX4_setD_0 : decode cX4_setD 0 = .ok (.iload_n 1, 1) := by decide +kernel
theorem dX4_setD_1 : decode cX4_setD 1 = .ok (.bipush 7, 2) := by decide +kernel
theorem dX4_setD_3 : decode cX4_setD 3 = .ok (.iushr, 1) := by decide +kernel
theorem dX4_setD_4 : decode cX4_setD 4 = .ok (.bipush 31, 2) := by decide +kernel
theorem dX4_setD_6 : decode cX4_setD 6 = .ok (.iand, 1) := by decide +kernel
theorem dX4_setD_7 : decode cX4_setD 7 = .ok (.istore_n 3, 1) := by decide +kernel
theorem dX4_setD_8 : decode cX4_setD 8 = .ok (.iload_n 3, 1) := by decide +kernel
theorem dX4_setD_9 : decode cX4_setD 9 = .ok (.ifCond .eq 10, 3) := by decide +kernel
theorem dX4_setD_12 : decode cX4_setD 12 = .ok (.aload_n 0, 1) := by decide +kernel
theorem dX4_setD_13 : decode cX4_setD 13 = .ok (.getfield 49, 3) := by decide +kernel
theorem dX4_setD_16 : decode cX4_setD 16 = .ok (.iload_n 3, 1) := by decide +kernel
theorem dX4_setD_17 : decode cX4_setD 17 = .ok (.iload_n 2, 1) := by decide +kernel
theorem dX4_setD_18 : decode cX4_setD 18 = .ok (.iastore, 1) := by decide +kernel
theorem dX4_setD_19 : decode cX4_setD 19 = .ok (.return_, 1) := by decide +kernel
theorem dX4_jump_0 : decode cX4_jump 0 = .ok (.iload_n 2, 1) := by decide +kernel
theorem dX4_jump_1 : decode cX4_jump 1 = .ok (.iconst 3, 1) := by decide +kernel
theorem dX4_jump_2 : decode cX4_jump 2 = .ok (.iand, 1) := by decide +kernel
theorem dX4_jump_3 : decode cX4_jump 3 = .ok (.ifCond .eq 10, 3) := by decide +kernel
theorem dX4_jump_6 : decode cX4_jump 6 = .ok (.aload_n 0, 1) := by decide +kernel
theorem dX4_jump_7 : decode cX4_jump 7 = .ok (.iconst 0, 1) := by decide +kernel
theorem dX4_jump_8 : decode cX4_jump 8 = .ok (.iload_n 2, 1) := by decide +kernel
theorem dX4_jump_9 : decode cX4_jump 9 = .ok (.invokevirtual 135, 3) := by decide +kernel
theorem dX4_jump_12 : decode cX4_jump 12 = .ok (.ireturn, 1) := by decide +kernel
theorem dX4_jump_13 : decode cX4_jump 13 = .ok (.aload_n 0, 1) := by decide +kernel
theorem dX4_jump_14 : decode cX4_jump 14 = .ok (.iload_n 1, 1) := by decide +kernel
theorem dX4_jump_15 : decode cX4_jump 15 = .ok (.aload_n 0, 1) := by decide +kernel
theorem dX4_jump_16 : decode cX4_jump 16 = .ok (.getfield 56, 3) := by decide +kernel
theorem dX4_jump_19 : decode cX4_jump 19 = .ok (.iconst 4, 1) := by decide +kernel
theorem dX4_jump_20 : decode cX4_jump 20 = .ok (.iadd, 1) := by decide +kernel
theorem dX4_jump_21 : decode cX4_jump 21 = .ok (.invokevirtual 183, 3) := by decide +kernel
theorem dX4_jump_24 : decode cX4_jump 24 = .ok (.aload_n 0, 1) := by decide +kernel
theorem dX4_jump_25 : decode cX4_jump 25 = .ok (.iload_n 2, 1) := by decide +kernel
theorem dX4_jump_26 : decode cX4_jump 26 = .ok (.invokevirtual 174, 3) := by decide +kernel
theorem dX4_jump_29 : decode cX4_jump 29 = .ok (.ireturn, 1) := by decide +kernel
theorem dX4_branch_0 : decode cX4_branch 0 = .ok (.iload_n 1, 1) := by decide +kernel
theorem dX4_branch_1 : decode cX4_branch 1 = .ok (.invokestatic 147, 3) := by decide +kernel
theorem dX4_branch_4 : decode cX4_branch 4 = .ok (.istore_n 2, 1) := by decide +kernel
theorem dX4_branch_5 : decode cX4_branch 5 = .ok (.iload_n 2, 1) := by decide +kernel
theorem dX4_branch_6 : decode cX4_branch 6 = .ok (.iconst 2, 1) := by decide +kernel
theorem dX4_branch_7 : decode cX4_branch 7 = .ok (.if_icmp .eq 8, 3) := by decide +kernel
theorem dX4_branch_10 : decode cX4_branch 10 = .ok (.iload_n 2, 1) := by decide +kernel
theorem dX4_branch_11 : decode cX4_branch 11 = .ok (.iconst 3, 1) := by decide +kernel
theorem dX4_branch_12 : decode cX4_branch 12 = .ok (.if_icmp .ne 9, 3) := by decide +kernel
theorem dX4_branch_15 : decode cX4_branch 15 = .ok (.aload_n 0, 1) := by decide +kernel
theorem dX4_branch_16 : decode cX4_branch 16 = .ok (.iload_n 1, 1) := by decide +kernel
theorem dX4_branch_17 : decode cX4_branch 17 = .ok (.invokevirtual 156, 3) := by decide +kernel
theorem dX4_branch_20 : decode cX4_branch 20 = .ok (.ireturn, 1) := by decide +kernel
theorem dX4_branch_21 : decode cX4_branch 21 = .ok (.iload_n 2, 1) := by decide +kernel
theorem dX4_branch_22 : decode cX4_branch 22 = .ok (.bipush 6, 2) := by decide +kernel
theorem dX4_branch_24 : decode cX4_branch 24 = .ok (.iand, 1) := by decide +kernel
theorem dX4_branch_25 : decode cX4_branch 25 = .ok (.aload_n 0, 1) := by decide +kernel
theorem dX4_branch_26 : decode cX4_branch 26 = .ok (.iload_n 1, 1) := by decide +kernel
theorem dX4_branch_27 : decode cX4_branch 27 = .ok (.invokevirtual 150, 3) := by decide +kernel
theorem dX4_branch_30 : decode cX4_branch 30 = .ok (.aload_n 0, 1) := by decide +kernel
theorem dX4_branch_31 : decode cX4_branch 31 = .ok (.iload_n 1, 1) := by decide +kernel
theorem dX4_branch_32 : decode cX4_branch 32 = .ok (.invokevirtual 191, 3) := by decide +kernel
theorem dX4_branch_35 : decode cX4_branch 35 = .ok (.invokestatic 194, 3) := by decide +kernel
theorem dX4_branch_38 : decode cX4_branch 38 = .ok (.iload_n 2, 1) := by decide +kernel
theorem dX4_branch_39 : decode cX4_branch 39 = .ok (.iconst 1, 1) := by decide +kernel
theorem dX4_branch_40 : decode cX4_branch 40 = .ok (.iand, 1) := by decide +kernel
theorem dX4_branch_41 : decode cX4_branch 41 = .ok (.iconst 1, 1) := by decide +kernel
theorem dX4_branch_42 : decode cX4_branch 42 = .ok (.if_icmp .ne 7, 3) := by decide +kernel
theorem dX4_branch_45 : decode cX4_branch 45 = .ok (.iconst 1, 1) := by decide +kernel
theorem dX4_branch_46 : decode cX4_branch 46 = .ok (.goto 4, 3) := by decide +kernel
theorem dX4_branch_49 : decode cX4_branch 49 = .ok (.iconst 0, 1) := by decide +kernel
theorem dX4_branch_50 : decode cX4_branch 50 = .ok (.if_icmp .eq 7, 3) := by decide +kernel
theorem dX4_branch_53 : decode cX4_branch 53 = .ok (.iconst 1, 1) := by decide +kernel
theorem dX4_branch_54 : decode cX4_branch 54 = .ok (.goto 4, 3) := by decide +kernel
theorem dX4_branch_57 : decode cX4_branch 57 = .ok (.iconst 0, 1) := by decide +kernel
theorem dX4_branch_58 : decode cX4_branch 58 = .ok (.istore_n 3, 1) := by decide +kernel
theorem dX4_branch_59 : decode cX4_branch 59 = .ok (.iload_n 3, 1) := by decide +kernel
theorem dX4_branch_60 : decode cX4_branch 60 = .ok (.ifCond .eq 15, 3) := by decide +kernel
theorem dX4_branch_63 : decode cX4_branch 63 = .ok (.aload_n 0, 1) := by decide +kernel
theorem dX4_branch_64 : decode cX4_branch 64 = .ok (.getfield 56, 3) := by decide +kernel
theorem dX4_branch_67 : decode cX4_branch 67 = .ok (.iload_n 1, 1) := by decide +kernel
theorem dX4_branch_68 : decode cX4_branch 68 = .ok (.invokestatic 198, 3) := by decide +kernel
theorem dX4_branch_71 : decode cX4_branch 71 = .ok (.iadd, 1) := by decide +kernel
theorem dX4_branch_72 : decode cX4_branch 72 = .ok (.goto 9, 3) := by decide +kernel
theorem dX4_branch_75 : decode cX4_branch 75 = .ok (.aload_n 0, 1) := by decide +kernel
theorem dX4_branch_76 : decode cX4_branch 76 = .ok (.getfield 56, 3) := by decide +kernel
theorem dX4_branch_79 : decode cX4_branch 79 = .ok (.iconst 4, 1) := by decide +kernel
theorem dX4_branch_80 : decode cX4_branch 80 = .ok (.iadd, 1) := by decide +kernel
theorem dX4_branch_81 : decode cX4_branch 81 = .ok (.istore 4, 2) := by decide +kernel
theorem dX4_branch_83 : decode cX4_branch 83 = .ok (.iload 4, 2) := by decide +kernel
theorem dX4_branch_85 : decode cX4_branch 85 = .ok (.iconst 3, 1) := by decide +kernel
theorem dX4_branch_86 : decode cX4_branch 86 = .ok (.iand, 1) := by decide +kernel
theorem dX4_branch_87 : decode cX4_branch 87 = .ok (.ifCond .eq 13, 3) := by decide +kernel
theorem dX4_branch_90 : decode cX4_branch 90 = .ok (.aload_n 0, 1) := by decide +kernel
theorem dX4_branch_91 : decode cX4_branch 91 = .ok (.iconst 0, 1) := by decide +kernel
theorem dX4_branch_92 : decode cX4_branch 92 = .ok (.iload 4, 2) := by decide +kernel
theorem dX4_branch_94 : decode cX4_branch 94 = .ok (.invokevirtual 135, 3) := by decide +kernel
theorem dX4_branch_97 : decode cX4_branch 97 = .ok (.goto 9, 3) := by decide +kernel
theorem dX4_branch_100 : decode cX4_branch 100 = .ok (.aload_n 0, 1) := by decide +kernel
theorem dX4_branch_101 : decode cX4_branch 101 = .ok (.iload 4, 2) := by decide +kernel
theorem dX4_branch_103 : decode cX4_branch 103 = .ok (.invokevirtual 174, 3) := by decide +kernel
theorem dX4_branch_106 : decode cX4_branch 106 = .ok (.ireturn, 1) := by decide +kernel
theorem dX4_compares_0 : decode cX4_compares 0 = .ok (.iload_n 0, 1) := by decide +kernel
theorem dX4_compares_1 : decode cX4_compares 1 = .ok (.lookupswitch 49 #[(0, 27), (4, 38)], 27) := by decide +kernel
theorem dX4_compares_28 : decode cX4_compares 28 = .ok (.iload_n 1, 1) := by decide +kernel
theorem dX4_compares_29 : decode cX4_compares 29 = .ok (.iload_n 2, 1) := by decide +kernel
theorem dX4_compares_30 : decode cX4_compares 30 = .ok (.if_icmp .ne 7, 3) := by decide +kernel
theorem dX4_compares_33 : decode cX4_compares 33 = .ok (.iconst 1, 1) := by decide +kernel
theorem dX4_compares_34 : decode cX4_compares 34 = .ok (.goto 4, 3) := by decide +kernel
theorem dX4_compares_37 : decode cX4_compares 37 = .ok (.iconst 0, 1) := by decide +kernel
theorem dX4_compares_38 : decode cX4_compares 38 = .ok (.ireturn, 1) := by decide +kernel
theorem dX4_compares_39 : decode cX4_compares 39 = .ok (.iload_n 1, 1) := by decide +kernel
theorem dX4_compares_40 : decode cX4_compares 40 = .ok (.iload_n 2, 1) := by decide +kernel
theorem dX4_compares_41 : decode cX4_compares 41 = .ok (.if_icmp .ge 7, 3) := by decide +kernel
theorem dX4_compares_44 : decode cX4_compares 44 = .ok (.iconst 1, 1) := by decide +kernel
theorem dX4_compares_45 : decode cX4_compares 45 = .ok (.goto 4, 3) := by decide +kernel
theorem dX4_compares_48 : decode cX4_compares 48 = .ok (.iconst 0, 1) := by decide +kernel
theorem dX4_compares_49 : decode cX4_compares 49 = .ok (.ireturn, 1) := by decide +kernel
theorem dX4_compares_50 : decode cX4_compares 50 = .ok (.iload_n 1, 1) := by decide +kernel
theorem dX4_compares_51 : decode cX4_compares 51 = .ok (.iload_n 2, 1) := by decide +kernel
theorem dX4_compares_52 : decode cX4_compares 52 = .ok (.invokestatic 201, 3) := by decide +kernel
theorem dX4_compares_55 : decode cX4_compares 55 = .ok (.ireturn, 1) := by decide +kernel
theorem dX4_belowUnsigned_0 : decode cX4_belowUnsigned 0 = .ok (.iload_n 0, 1) := by decide +kernel
theorem dX4_belowUnsigned_1 : decode cX4_belowUnsigned 1 = .ok (.iload_n 1, 1) := by decide +kernel
theorem dX4_belowUnsigned_2 : decode cX4_belowUnsigned 2 = .ok (.invokestatic 205, 3) := by decide +kernel
theorem dX4_belowUnsigned_5 : decode cX4_belowUnsigned 5 = .ok (.ifCond .ge 7, 3) := by decide +kernel
theorem dX4_belowUnsigned_8 : decode cX4_belowUnsigned 8 = .ok (.iconst 1, 1) := by decide +kernel
theorem dX4_belowUnsigned_9 : decode cX4_belowUnsigned 9 = .ok (.goto 4, 3) := by decide +kernel
theorem dX4_belowUnsigned_12 : decode cX4_belowUnsigned 12 = .ok (.iconst 0, 1) := by decide +kernel
theorem dX4_belowUnsigned_13 : decode cX4_belowUnsigned 13 = .ok (.ireturn, 1) := by decide +kernel
theorem dX4_read_0 : decode cX4_read 0 = .ok (.iload_n 1, 1) := by decide +kernel
theorem dX4_read_1 : decode cX4_read 1 = .ok (.invokestatic 147, 3) := by decide +kernel
theorem dX4_read_4 : decode cX4_read 4 = .ok (.istore_n 2, 1) := by decide +kernel
theorem dX4_read_5 : decode cX4_read 5 = .ok (.iload_n 2, 1) := by decide +kernel
theorem dX4_read_6 : decode cX4_read 6 = .ok (.iconst 3, 1) := by decide +kernel
theorem dX4_read_7 : decode cX4_read 7 = .ok (.if_icmp .eq 8, 3) := by decide +kernel
theorem dX4_read_10 : decode cX4_read 10 = .ok (.iload_n 2, 1) := by decide +kernel
theorem dX4_read_11 : decode cX4_read 11 = .ok (.iconst 5, 1) := by decide +kernel
theorem dX4_read_12 : decode cX4_read 12 = .ok (.if_icmp .le 9, 3) := by decide +kernel
theorem dX4_read_15 : decode cX4_read 15 = .ok (.aload_n 0, 1) := by decide +kernel
theorem dX4_read_16 : decode cX4_read 16 = .ok (.iload_n 1, 1) := by decide +kernel
theorem dX4_read_17 : decode cX4_read 17 = .ok (.invokevirtual 156, 3) := by decide +kernel
theorem dX4_read_20 : decode cX4_read 20 = .ok (.ireturn, 1) := by decide +kernel
theorem dX4_read_21 : decode cX4_read 21 = .ok (.iconst 1, 1) := by decide +kernel
theorem dX4_read_22 : decode cX4_read 22 = .ok (.iload_n 2, 1) := by decide +kernel
theorem dX4_read_23 : decode cX4_read 23 = .ok (.iconst 3, 1) := by decide +kernel
theorem dX4_read_24 : decode cX4_read 24 = .ok (.iand, 1) := by decide +kernel
theorem dX4_read_25 : decode cX4_read 25 = .ok (.ishl, 1) := by decide +kernel
theorem dX4_read_26 : decode cX4_read 26 = .ok (.istore_n 3, 1) := by decide +kernel
theorem dX4_read_27 : decode cX4_read 27 = .ok (.aload_n 0, 1) := by decide +kernel
theorem dX4_read_28 : decode cX4_read 28 = .ok (.iload_n 1, 1) := by decide +kernel
theorem dX4_read_29 : decode cX4_read 29 = .ok (.invokevirtual 150, 3) := by decide +kernel
theorem dX4_read_32 : decode cX4_read 32 = .ok (.iload_n 1, 1) := by decide +kernel
theorem dX4_read_33 : decode cX4_read 33 = .ok (.invokestatic 153, 3) := by decide +kernel
theorem dX4_read_36 : decode cX4_read 36 = .ok (.iadd, 1) := by decide +kernel
theorem dX4_read_37 : decode cX4_read 37 = .ok (.istore 4, 2) := by decide +kernel
theorem dX4_read_39 : decode cX4_read 39 = .ok (.iload 4, 2) := by decide +kernel
theorem dX4_read_41 : decode cX4_read 41 = .ok (.iload_n 3, 1) := by decide +kernel
theorem dX4_read_42 : decode cX4_read 42 = .ok (.iconst 1, 1) := by decide +kernel
theorem dX4_read_43 : decode cX4_read 43 = .ok (.isub, 1) := by decide +kernel
theorem dX4_read_44 : decode cX4_read 44 = .ok (.iand, 1) := by decide +kernel
theorem dX4_read_45 : decode cX4_read 45 = .ok (.ifCond .eq 11, 3) := by decide +kernel
theorem dX4_read_48 : decode cX4_read 48 = .ok (.aload_n 0, 1) := by decide +kernel
theorem dX4_read_49 : decode cX4_read 49 = .ok (.iconst 4, 1) := by decide +kernel
theorem dX4_read_50 : decode cX4_read 50 = .ok (.iload 4, 2) := by decide +kernel
theorem dX4_read_52 : decode cX4_read 52 = .ok (.invokevirtual 135, 3) := by decide +kernel
theorem dX4_read_55 : decode cX4_read 55 = .ok (.ireturn, 1) := by decide +kernel
theorem dX4_read_56 : decode cX4_read 56 = .ok (.aload_n 0, 1) := by decide +kernel
theorem dX4_read_57 : decode cX4_read 57 = .ok (.getfield 24, 3) := by decide +kernel
theorem dX4_read_60 : decode cX4_read 60 = .ok (.iload 4, 2) := by decide +kernel
theorem dX4_read_62 : decode cX4_read 62 = .ok (.invokevirtual 76, 3) := by decide +kernel
theorem dX4_read_65 : decode cX4_read 65 = .ok (.ifCond .eq 23, 3) := by decide +kernel
theorem dX4_read_68 : decode cX4_read 68 = .ok (.aload_n 0, 1) := by decide +kernel
theorem dX4_read_69 : decode cX4_read 69 = .ok (.iload_n 1, 1) := by decide +kernel
theorem dX4_read_70 : decode cX4_read 70 = .ok (.iload_n 2, 1) := by decide +kernel
theorem dX4_read_71 : decode cX4_read 71 = .ok (.aload_n 0, 1) := by decide +kernel
theorem dX4_read_72 : decode cX4_read 72 = .ok (.getfield 24, 3) := by decide +kernel
theorem dX4_read_75 : decode cX4_read 75 = .ok (.iload 4, 2) := by decide +kernel
theorem dX4_read_77 : decode cX4_read 77 = .ok (.iload_n 3, 1) := by decide +kernel
theorem dX4_read_78 : decode cX4_read 78 = .ok (.invokevirtual 84, 3) := by decide +kernel
theorem dX4_read_81 : decode cX4_read 81 = .ok (.invokestatic 210, 3) := by decide +kernel
theorem dX4_read_84 : decode cX4_read 84 = .ok (.invokevirtual 138, 3) := by decide +kernel
theorem dX4_read_87 : decode cX4_read 87 = .ok (.ireturn, 1) := by decide +kernel
theorem dX4_read_88 : decode cX4_read 88 = .ok (.iload_n 3, 1) := by decide +kernel
theorem dX4_read_89 : decode cX4_read 89 = .ok (.iconst 4, 1) := by decide +kernel
theorem dX4_read_90 : decode cX4_read 90 = .ok (.if_icmp .ne 26, 3) := by decide +kernel
theorem dX4_read_93 : decode cX4_read 93 = .ok (.iload 4, 2) := by decide +kernel
theorem dX4_read_95 : decode cX4_read 95 = .ok (.invokestatic 213, 3) := by decide +kernel
theorem dX4_read_98 : decode cX4_read 98 = .ok (.ifCond .eq 18, 3) := by decide +kernel
theorem dX4_read_101 : decode cX4_read 101 = .ok (.aload_n 0, 1) := by decide +kernel
theorem dX4_read_102 : decode cX4_read 102 = .ok (.iload_n 1, 1) := by decide +kernel
theorem dX4_read_103 : decode cX4_read 103 = .ok (.aload_n 0, 1) := by decide +kernel
theorem dX4_read_104 : decode cX4_read 104 = .ok (.getfield 31, 3) := by decide +kernel
theorem dX4_read_107 : decode cX4_read 107 = .ok (.iload 4, 2) := by decide +kernel
theorem dX4_read_109 : decode cX4_read 109 = .ok (.invokevirtual 214, 3) := by decide +kernel
theorem dX4_read_112 : decode cX4_read 112 = .ok (.invokevirtual 138, 3) := by decide +kernel
theorem dX4_read_115 : decode cX4_read 115 = .ok (.ireturn, 1) := by decide +kernel
theorem dX4_read_116 : decode cX4_read 116 = .ok (.iload_n 3, 1) := by decide +kernel
theorem dX4_read_117 : decode cX4_read 117 = .ok (.iconst 4, 1) := by decide +kernel
theorem dX4_read_118 : decode cX4_read 118 = .ok (.if_icmp .ne 23, 3) := by decide +kernel
theorem dX4_read_121 : decode cX4_read 121 = .ok (.iload 4, 2) := by decide +kernel
theorem dX4_read_123 : decode cX4_read 123 = .ok (.ldc 217, 2) := by decide +kernel
theorem dX4_read_125 : decode cX4_read 125 = .ok (.if_icmp .ne 16, 3) := by decide +kernel
theorem dX4_read_128 : decode cX4_read 128 = .ok (.aload_n 0, 1) := by decide +kernel
theorem dX4_read_129 : decode cX4_read 129 = .ok (.iload_n 1, 1) := by decide +kernel
theorem dX4_read_130 : decode cX4_read 130 = .ok (.aload_n 0, 1) := by decide +kernel
theorem dX4_read_131 : decode cX4_read 131 = .ok (.getfield 38, 3) := by decide +kernel
theorem dX4_read_134 : decode cX4_read 134 = .ok (.invokevirtual 218, 3) := by decide +kernel
theorem dX4_read_137 : decode cX4_read 137 = .ok (.invokevirtual 138, 3) := by decide +kernel
theorem dX4_read_140 : decode cX4_read 140 = .ok (.ireturn, 1) := by decide +kernel
theorem dX4_read_141 : decode cX4_read 141 = .ok (.aload_n 0, 1) := by decide +kernel
theorem dX4_read_142 : decode cX4_read 142 = .ok (.iconst 5, 1) := by decide +kernel
theorem dX4_read_143 : decode cX4_read 143 = .ok (.iload 4, 2) := by decide +kernel
theorem dX4_read_145 : decode cX4_read 145 = .ok (.invokevirtual 135, 3) := by decide +kernel
theorem dX4_read_148 : decode cX4_read 148 = .ok (.ireturn, 1) := by decide +kernel
theorem dX4_extended_0 : decode cX4_extended 0 = .ok (.iload_n 0, 1) := by decide +kernel
theorem dX4_extended_1 : decode cX4_extended 1 = .ok (.lookupswitch 33 #[(0, 27), (1, 30)], 27) := by decide +kernel
theorem dX4_extended_28 : decode cX4_extended 28 = .ok (.iload_n 1, 1) := by decide +kernel
theorem dX4_extended_29 : decode cX4_extended 29 = .ok (.i2b, 1) := by decide +kernel
theorem dX4_extended_30 : decode cX4_extended 30 = .ok (.ireturn, 1) := by decide +kernel
theorem dX4_extended_31 : decode cX4_extended 31 = .ok (.iload_n 1, 1) := by decide +kernel
theorem dX4_extended_32 : decode cX4_extended 32 = .ok (.i2s, 1) := by decide +kernel
theorem dX4_extended_33 : decode cX4_extended 33 = .ok (.ireturn, 1) := by decide +kernel
theorem dX4_extended_34 : decode cX4_extended 34 = .ok (.iload_n 1, 1) := by decide +kernel
theorem dX4_extended_35 : decode cX4_extended 35 = .ok (.ireturn, 1) := by decide +kernel
theorem dX4_store_0 : decode cX4_store 0 = .ok (.iload_n 1, 1) := by decide +kernel
theorem dX4_store_1 : decode cX4_store 1 = .ok (.invokestatic 147, 3) := by decide +kernel
theorem dX4_store_4 : decode cX4_store 4 = .ok (.istore_n 2, 1) := by decide +kernel
theorem dX4_store_5 : decode cX4_store 5 = .ok (.iload_n 2, 1) := by decide +kernel
theorem dX4_store_6 : decode cX4_store 6 = .ok (.iconst 2, 1) := by decide +kernel
theorem dX4_store_7 : decode cX4_store 7 = .ok (.if_icmp .le 9, 3) := by decide +kernel
theorem dX4_store_10 : decode cX4_store 10 = .ok (.aload_n 0, 1) := by decide +kernel
theorem dX4_store_11 : decode cX4_store 11 = .ok (.iload_n 1, 1) := by decide +kernel
theorem dX4_store_12 : decode cX4_store 12 = .ok (.invokevirtual 156, 3) := by decide +kernel
theorem dX4_store_15 : decode cX4_store 15 = .ok (.ireturn, 1) := by decide +kernel
theorem dX4_store_16 : decode cX4_store 16 = .ok (.iconst 1, 1) := by decide +kernel
theorem dX4_store_17 : decode cX4_store 17 = .ok (.iload_n 2, 1) := by decide +kernel
theorem dX4_store_18 : decode cX4_store 18 = .ok (.ishl, 1) := by decide +kernel
theorem dX4_store_19 : decode cX4_store 19 = .ok (.istore_n 3, 1) := by decide +kernel
theorem dX4_store_20 : decode cX4_store 20 = .ok (.aload_n 0, 1) := by decide +kernel
theorem dX4_store_21 : decode cX4_store 21 = .ok (.iload_n 1, 1) := by decide +kernel
theorem dX4_store_22 : decode cX4_store 22 = .ok (.invokevirtual 150, 3) := by decide +kernel
theorem dX4_store_25 : decode cX4_store 25 = .ok (.iload_n 1, 1) := by decide +kernel
theorem dX4_store_26 : decode cX4_store 26 = .ok (.invokestatic 221, 3) := by decide +kernel
theorem dX4_store_29 : decode cX4_store 29 = .ok (.iadd, 1) := by decide +kernel
theorem dX4_store_30 : decode cX4_store 30 = .ok (.istore 4, 2) := by decide +kernel
theorem dX4_store_32 : decode cX4_store 32 = .ok (.iload 4, 2) := by decide +kernel
theorem dX4_store_34 : decode cX4_store 34 = .ok (.iload_n 3, 1) := by decide +kernel
theorem dX4_store_35 : decode cX4_store 35 = .ok (.iconst 1, 1) := by decide +kernel
theorem dX4_store_36 : decode cX4_store 36 = .ok (.isub, 1) := by decide +kernel
theorem dX4_store_37 : decode cX4_store 37 = .ok (.iand, 1) := by decide +kernel
theorem dX4_store_38 : decode cX4_store 38 = .ok (.ifCond .eq 12, 3) := by decide +kernel
theorem dX4_store_41 : decode cX4_store 41 = .ok (.aload_n 0, 1) := by decide +kernel
theorem dX4_store_42 : decode cX4_store 42 = .ok (.bipush 6, 2) := by decide +kernel
theorem dX4_store_44 : decode cX4_store 44 = .ok (.iload 4, 2) := by decide +kernel
theorem dX4_store_46 : decode cX4_store 46 = .ok (.invokevirtual 135, 3) := by decide +kernel
theorem dX4_store_49 : decode cX4_store 49 = .ok (.ireturn, 1) := by decide +kernel
theorem dX4_store_50 : decode cX4_store 50 = .ok (.aload_n 0, 1) := by decide +kernel
theorem dX4_store_51 : decode cX4_store 51 = .ok (.getfield 24, 3) := by decide +kernel
theorem dX4_store_54 : decode cX4_store 54 = .ok (.iload 4, 2) := by decide +kernel
theorem dX4_store_56 : decode cX4_store 56 = .ok (.invokevirtual 76, 3) := by decide +kernel
theorem dX4_store_59 : decode cX4_store 59 = .ok (.ifCond .eq 21, 3) := by decide +kernel
theorem dX4_store_62 : decode cX4_store 62 = .ok (.aload_n 0, 1) := by decide +kernel
theorem dX4_store_63 : decode cX4_store 63 = .ok (.getfield 24, 3) := by decide +kernel
theorem dX4_store_66 : decode cX4_store 66 = .ok (.iload 4, 2) := by decide +kernel
theorem dX4_store_68 : decode cX4_store 68 = .ok (.iload_n 3, 1) := by decide +kernel
theorem dX4_store_69 : decode cX4_store 69 = .ok (.aload_n 0, 1) := by decide +kernel
theorem dX4_store_70 : decode cX4_store 70 = .ok (.iload_n 1, 1) := by decide +kernel
theorem dX4_store_71 : decode cX4_store 71 = .ok (.invokevirtual 191, 3) := by decide +kernel
theorem dX4_store_74 : decode cX4_store 74 = .ok (.invokevirtual 80, 3) := by decide +kernel
theorem dX4_store_77 : decode cX4_store 77 = .ok (.goto 66, 3) := by decide +kernel
theorem dX4_store_80 : decode cX4_store 80 = .ok (.iload_n 3, 1) := by decide +kernel
theorem dX4_store_81 : decode cX4_store 81 = .ok (.iconst 4, 1) := by decide +kernel
theorem dX4_store_82 : decode cX4_store 82 = .ok (.if_icmp .ne 28, 3) := by decide +kernel
theorem dX4_store_85 : decode cX4_store 85 = .ok (.iload 4, 2) := by decide +kernel
theorem dX4_store_87 : decode cX4_store 87 = .ok (.invokestatic 213, 3) := by decide +kernel
theorem dX4_store_90 : decode cX4_store 90 = .ok (.ifCond .eq 20, 3) := by decide +kernel
theorem dX4_store_93 : decode cX4_store 93 = .ok (.aload_n 0, 1) := by decide +kernel
theorem dX4_store_94 : decode cX4_store 94 = .ok (.getfield 31, 3) := by decide +kernel
theorem dX4_store_97 : decode cX4_store 97 = .ok (.iload 4, 2) := by decide +kernel
theorem dX4_store_99 : decode cX4_store 99 = .ok (.aload_n 0, 1) := by decide +kernel
theorem dX4_store_100 : decode cX4_store 100 = .ok (.iload_n 1, 1) := by decide +kernel
theorem dX4_store_101 : decode cX4_store 101 = .ok (.invokevirtual 191, 3) := by decide +kernel
theorem dX4_store_104 : decode cX4_store 104 = .ok (.invokevirtual 224, 3) := by decide +kernel
theorem dX4_store_107 : decode cX4_store 107 = .ok (.goto 36, 3) := by decide +kernel
theorem dX4_store_110 : decode cX4_store 110 = .ok (.iload 4, 2) := by decide +kernel
theorem dX4_store_112 : decode cX4_store 112 = .ok (.ldc 217, 2) := by decide +kernel
theorem dX4_store_114 : decode cX4_store 114 = .ok (.if_icmp .eq 12, 3) := by decide +kernel
theorem dX4_store_117 : decode cX4_store 117 = .ok (.aload_n 0, 1) := by decide +kernel
theorem dX4_store_118 : decode cX4_store 118 = .ok (.bipush 7, 2) := by decide +kernel
theorem dX4_store_120 : decode cX4_store 120 = .ok (.iload 4, 2) := by decide +kernel
theorem dX4_store_122 : decode cX4_store 122 = .ok (.invokevirtual 135, 3) := by decide +kernel
theorem dX4_store_125 : decode cX4_store 125 = .ok (.ireturn, 1) := by decide +kernel
theorem dX4_store_126 : decode cX4_store 126 = .ok (.aload_n 0, 1) := by decide +kernel
theorem dX4_store_127 : decode cX4_store 127 = .ok (.getfield 38, 3) := by decide +kernel
theorem dX4_store_130 : decode cX4_store 130 = .ok (.aload_n 0, 1) := by decide +kernel
theorem dX4_store_131 : decode cX4_store 131 = .ok (.iload_n 1, 1) := by decide +kernel
theorem dX4_store_132 : decode cX4_store 132 = .ok (.invokevirtual 191, 3) := by decide +kernel
theorem dX4_store_135 : decode cX4_store 135 = .ok (.invokevirtual 227, 3) := by decide +kernel
theorem dX4_store_138 : decode cX4_store 138 = .ok (.ifCond .ne 5, 3) := by decide +kernel
theorem dX4_store_141 : decode cX4_store 141 = .ok (.iconst 4, 1) := by decide +kernel
theorem dX4_store_142 : decode cX4_store 142 = .ok (.ireturn, 1) := by decide +kernel
theorem dX4_store_143 : decode cX4_store 143 = .ok (.aload_n 0, 1) := by decide +kernel
theorem dX4_store_144 : decode cX4_store 144 = .ok (.aload_n 0, 1) := by decide +kernel
theorem dX4_store_145 : decode cX4_store 145 = .ok (.getfield 56, 3) := by decide +kernel
theorem dX4_store_148 : decode cX4_store 148 = .ok (.iconst 4, 1) := by decide +kernel
theorem dX4_store_149 : decode cX4_store 149 = .ok (.iadd, 1) := by decide +kernel
theorem dX4_store_150 : decode cX4_store 150 = .ok (.invokevirtual 174, 3) := by decide +kernel
theorem dX4_store_153 : decode cX4_store 153 = .ok (.ireturn, 1) := by decide +kernel
theorem dX4_reckonWithNumber_0 : decode cX4_reckonWithNumber 0 = .ok (.iload_n 1, 1) := by decide +kernel
theorem dX4_reckonWithNumber_1 : decode cX4_reckonWithNumber 1 = .ok (.invokestatic 147, 3) := by decide +kernel
theorem dX4_reckonWithNumber_4 : decode cX4_reckonWithNumber 4 = .ok (.istore_n 2, 1) := by decide +kernel
theorem dX4_reckonWithNumber_5 : decode cX4_reckonWithNumber 5 = .ok (.iload_n 1, 1) := by decide +kernel
theorem dX4_reckonWithNumber_6 : decode cX4_reckonWithNumber 6 = .ok (.invokestatic 230, 3) := by decide +kernel
theorem dX4_reckonWithNumber_9 : decode cX4_reckonWithNumber 9 = .ok (.istore_n 3, 1) := by decide +kernel
theorem dX4_reckonWithNumber_10 : decode cX4_reckonWithNumber 10 = .ok (.iload_n 2, 1) := by decide +kernel
theorem dX4_reckonWithNumber_11 : decode cX4_reckonWithNumber 11 = .ok (.iconst 1, 1) := by decide +kernel
theorem dX4_reckonWithNumber_12 : decode cX4_reckonWithNumber 12 = .ok (.if_icmp .ne 15, 3) := by decide +kernel
theorem dX4_reckonWithNumber_15 : decode cX4_reckonWithNumber 15 = .ok (.iload_n 3, 1) := by decide +kernel
theorem dX4_reckonWithNumber_16 : decode cX4_reckonWithNumber 16 = .ok (.ifCond .ne 7, 3) := by decide +kernel
theorem dX4_reckonWithNumber_19 : decode cX4_reckonWithNumber 19 = .ok (.iconst 1, 1) := by decide +kernel
theorem dX4_reckonWithNumber_20 : decode cX4_reckonWithNumber 20 = .ok (.goto 27, 3) := by decide +kernel
theorem dX4_reckonWithNumber_23 : decode cX4_reckonWithNumber 23 = .ok (.iconst 0, 1) := by decide +kernel
theorem dX4_reckonWithNumber_24 : decode cX4_reckonWithNumber 24 = .ok (.goto 23, 3) := by decide +kernel
theorem dX4_reckonWithNumber_27 : decode cX4_reckonWithNumber 27 = .ok (.iload_n 2, 1) := by decide +kernel
theorem dX4_reckonWithNumber_28 : decode cX4_reckonWithNumber 28 = .ok (.iconst 5, 1) := by decide +kernel
theorem dX4_reckonWithNumber_29 : decode cX4_reckonWithNumber 29 = .ok (.if_icmp .ne 13, 3) := by decide +kernel
theorem dX4_reckonWithNumber_32 : decode cX4_reckonWithNumber 32 = .ok (.iload_n 3, 1) := by decide +kernel
theorem dX4_reckonWithNumber_33 : decode cX4_reckonWithNumber 33 = .ok (.ifCond .eq 9, 3) := by decide +kernel
theorem dX4_reckonWithNumber_36 : decode cX4_reckonWithNumber 36 = .ok (.iload_n 3, 1) := by decide +kernel
theorem dX4_reckonWithNumber_37 : decode cX4_reckonWithNumber 37 = .ok (.bipush 32, 2) := by decide +kernel
theorem dX4_reckonWithNumber_39 : decode cX4_reckonWithNumber 39 = .ok (.if_icmp .ne 7, 3) := by decide +kernel
theorem dX4_reckonWithNumber_42 : decode cX4_reckonWithNumber 42 = .ok (.iconst 1, 1) := by decide +kernel
theorem dX4_reckonWithNumber_43 : decode cX4_reckonWithNumber 43 = .ok (.goto 4, 3) := by decide +kernel
theorem dX4_reckonWithNumber_46 : decode cX4_reckonWithNumber 46 = .ok (.iconst 0, 1) := by decide +kernel
theorem dX4_reckonWithNumber_47 : decode cX4_reckonWithNumber 47 = .ok (.istore 4, 2) := by decide +kernel
theorem dX4_reckonWithNumber_49 : decode cX4_reckonWithNumber 49 = .ok (.iload 4, 2) := by decide +kernel
theorem dX4_reckonWithNumber_51 : decode cX4_reckonWithNumber 51 = .ok (.ifCond .ne 9, 3) := by decide +kernel
theorem dX4_reckonWithNumber_54 : decode cX4_reckonWithNumber 54 = .ok (.aload_n 0, 1) := by decide +kernel
theorem dX4_reckonWithNumber_55 : decode cX4_reckonWithNumber 55 = .ok (.iload_n 1, 1) := by decide +kernel
theorem dX4_reckonWithNumber_56 : decode cX4_reckonWithNumber 56 = .ok (.invokevirtual 156, 3) := by decide +kernel
theorem dX4_reckonWithNumber_59 : decode cX4_reckonWithNumber 59 = .ok (.ireturn, 1) := by decide +kernel
theorem dX4_reckonWithNumber_60 : decode cX4_reckonWithNumber 60 = .ok (.aload_n 0, 1) := by decide +kernel
theorem dX4_reckonWithNumber_61 : decode cX4_reckonWithNumber 61 = .ok (.iload_n 1, 1) := by decide +kernel
theorem dX4_reckonWithNumber_62 : decode cX4_reckonWithNumber 62 = .ok (.iload_n 2, 1) := by decide +kernel
theorem dX4_reckonWithNumber_63 : decode cX4_reckonWithNumber 63 = .ok (.iload_n 2, 1) := by decide +kernel
theorem dX4_reckonWithNumber_64 : decode cX4_reckonWithNumber 64 = .ok (.iconst 5, 1) := by decide +kernel
theorem dX4_reckonWithNumber_65 : decode cX4_reckonWithNumber 65 = .ok (.if_icmp .ne 13, 3) := by decide +kernel
theorem dX4_reckonWithNumber_68 : decode cX4_reckonWithNumber 68 = .ok (.iload_n 3, 1) := by decide +kernel
theorem dX4_reckonWithNumber_69 : decode cX4_reckonWithNumber 69 = .ok (.bipush 32, 2) := by decide +kernel
theorem dX4_reckonWithNumber_71 : decode cX4_reckonWithNumber 71 = .ok (.if_icmp .ne 7, 3) := by decide +kernel
theorem dX4_reckonWithNumber_74 : decode cX4_reckonWithNumber 74 = .ok (.iconst 1, 1) := by decide +kernel
theorem dX4_reckonWithNumber_75 : decode cX4_reckonWithNumber 75 = .ok (.goto 4, 3) := by decide +kernel
theorem dX4_reckonWithNumber_78 : decode cX4_reckonWithNumber 78 = .ok (.iconst 0, 1) := by decide +kernel
theorem dX4_reckonWithNumber_79 : decode cX4_reckonWithNumber 79 = .ok (.aload_n 0, 1) := by decide +kernel
theorem dX4_reckonWithNumber_80 : decode cX4_reckonWithNumber 80 = .ok (.iload_n 1, 1) := by decide +kernel
theorem dX4_reckonWithNumber_81 : decode cX4_reckonWithNumber 81 = .ok (.invokevirtual 150, 3) := by decide +kernel
theorem dX4_reckonWithNumber_84 : decode cX4_reckonWithNumber 84 = .ok (.iload_n 1, 1) := by decide +kernel
theorem dX4_reckonWithNumber_85 : decode cX4_reckonWithNumber 85 = .ok (.invokestatic 153, 3) := by decide +kernel
theorem dX4_reckonWithNumber_88 : decode cX4_reckonWithNumber 88 = .ok (.invokestatic 233, 3) := by decide +kernel
theorem dX4_reckonWithNumber_91 : decode cX4_reckonWithNumber 91 = .ok (.invokevirtual 138, 3) := by decide +kernel
theorem dX4_reckonWithNumber_94 : decode cX4_reckonWithNumber 94 = .ok (.ireturn, 1) := by decide +kernel
theorem dX4_reckonWithRegister_0 : decode cX4_reckonWithRegister 0 = .ok (.iload_n 1, 1) := by decide +kernel
theorem dX4_reckonWithRegister_1 : decode cX4_reckonWithRegister 1 = .ok (.invokestatic 147, 3) := by decide +kernel
theorem dX4_reckonWithRegister_4 : decode cX4_reckonWithRegister 4 = .ok (.istore_n 2, 1) := by decide +kernel
theorem dX4_reckonWithRegister_5 : decode cX4_reckonWithRegister 5 = .ok (.iload_n 1, 1) := by decide +kernel
theorem dX4_reckonWithRegister_6 : decode cX4_reckonWithRegister 6 = .ok (.invokestatic 230, 3) := by decide +kernel
theorem dX4_reckonWithRegister_9 : decode cX4_reckonWithRegister 9 = .ok (.istore_n 3, 1) := by decide +kernel
theorem dX4_reckonWithRegister_10 : decode cX4_reckonWithRegister 10 = .ok (.aload_n 0, 1) := by decide +kernel
theorem dX4_reckonWithRegister_11 : decode cX4_reckonWithRegister 11 = .ok (.iload_n 1, 1) := by decide +kernel
theorem dX4_reckonWithRegister_12 : decode cX4_reckonWithRegister 12 = .ok (.invokevirtual 150, 3) := by decide +kernel
theorem dX4_reckonWithRegister_15 : decode cX4_reckonWithRegister 15 = .ok (.istore 4, 2) := by decide +kernel
theorem dX4_reckonWithRegister_17 : decode cX4_reckonWithRegister 17 = .ok (.aload_n 0, 1) := by decide +kernel
theorem dX4_reckonWithRegister_18 : decode cX4_reckonWithRegister 18 = .ok (.iload_n 1, 1) := by decide +kernel
theorem dX4_reckonWithRegister_19 : decode cX4_reckonWithRegister 19 = .ok (.invokevirtual 191, 3) := by decide +kernel
theorem dX4_reckonWithRegister_22 : decode cX4_reckonWithRegister 22 = .ok (.istore 5, 2) := by decide +kernel
theorem dX4_reckonWithRegister_24 : decode cX4_reckonWithRegister 24 = .ok (.iload_n 3, 1) := by decide +kernel
theorem dX4_reckonWithRegister_25 : decode cX4_reckonWithRegister 25 = .ok (.iconst 1, 1) := by decide +kernel
theorem dX4_reckonWithRegister_26 : decode cX4_reckonWithRegister 26 = .ok (.if_icmp .ne 33, 3) := by decide +kernel
theorem dX4_reckonWithRegister_29 : decode cX4_reckonWithRegister 29 = .ok (.aload_n 0, 1) := by decide +kernel
theorem dX4_reckonWithRegister_30 : decode cX4_reckonWithRegister 30 = .ok (.iload_n 1, 1) := by decide +kernel
theorem dX4_reckonWithRegister_31 : decode cX4_reckonWithRegister 31 = .ok (.iload_n 2, 1) := by decide +kernel
theorem dX4_reckonWithRegister_32 : decode cX4_reckonWithRegister 32 = .ok (.iconst 4, 1) := by decide +kernel
theorem dX4_reckonWithRegister_33 : decode cX4_reckonWithRegister 33 = .ok (.if_icmp .ge 14, 3) := by decide +kernel
theorem dX4_reckonWithRegister_36 : decode cX4_reckonWithRegister 36 = .ok (.iload_n 2, 1) := by decide +kernel
theorem dX4_reckonWithRegister_37 : decode cX4_reckonWithRegister 37 = .ok (.iload 4, 2) := by decide +kernel
theorem dX4_reckonWithRegister_39 : decode cX4_reckonWithRegister 39 = .ok (.iload 5, 2) := by decide +kernel
theorem dX4_reckonWithRegister_41 : decode cX4_reckonWithRegister 41 = .ok (.invokestatic 237, 3) := by decide +kernel
theorem dX4_reckonWithRegister_44 : decode cX4_reckonWithRegister 44 = .ok (.goto 11, 3) := by decide +kernel
theorem dX4_reckonWithRegister_47 : decode cX4_reckonWithRegister 47 = .ok (.iload_n 2, 1) := by decide +kernel
theorem dX4_reckonWithRegister_48 : decode cX4_reckonWithRegister 48 = .ok (.iload 4, 2) := by decide +kernel
theorem dX4_reckonWithRegister_50 : decode cX4_reckonWithRegister 50 = .ok (.iload 5, 2) := by decide +kernel
theorem dX4_reckonWithRegister_52 : decode cX4_reckonWithRegister 52 = .ok (.invokestatic 240, 3) := by decide +kernel
theorem dX4_reckonWithRegister_55 : decode cX4_reckonWithRegister 55 = .ok (.invokevirtual 138, 3) := by decide +kernel
theorem dX4_reckonWithRegister_58 : decode cX4_reckonWithRegister 58 = .ok (.ireturn, 1) := by decide +kernel
theorem dX4_reckonWithRegister_59 : decode cX4_reckonWithRegister 59 = .ok (.iload_n 3, 1) := by decide +kernel
theorem dX4_reckonWithRegister_60 : decode cX4_reckonWithRegister 60 = .ok (.ifCond .eq 24, 3) := by decide +kernel
theorem dX4_reckonWithRegister_63 : decode cX4_reckonWithRegister 63 = .ok (.iload_n 3, 1) := by decide +kernel
theorem dX4_reckonWithRegister_64 : decode cX4_reckonWithRegister 64 = .ok (.bipush 32, 2) := by decide +kernel
theorem dX4_reckonWithRegister_66 : decode cX4_reckonWithRegister 66 = .ok (.if_icmp .ne 12, 3) := by decide +kernel
theorem dX4_reckonWithRegister_69 : decode cX4_reckonWithRegister 69 = .ok (.iload_n 2, 1) := by decide +kernel
theorem dX4_reckonWithRegister_70 : decode cX4_reckonWithRegister 70 = .ok (.ifCond .eq 14, 3) := by decide +kernel
theorem dX4_reckonWithRegister_73 : decode cX4_reckonWithRegister 73 = .ok (.iload_n 2, 1) := by decide +kernel
theorem dX4_reckonWithRegister_74 : decode cX4_reckonWithRegister 74 = .ok (.iconst 5, 1) := by decide +kernel
theorem dX4_reckonWithRegister_75 : decode cX4_reckonWithRegister 75 = .ok (.if_icmp .eq 9, 3) := by decide +kernel
theorem dX4_reckonWithRegister_78 : decode cX4_reckonWithRegister 78 = .ok (.aload_n 0, 1) := by decide +kernel
theorem dX4_reckonWithRegister_79 : decode cX4_reckonWithRegister 79 = .ok (.iload_n 1, 1) := by decide +kernel
theorem dX4_reckonWithRegister_80 : decode cX4_reckonWithRegister 80 = .ok (.invokevirtual 156, 3) := by decide +kernel
theorem dX4_reckonWithRegister_83 : decode cX4_reckonWithRegister 83 = .ok (.ireturn, 1) := by decide +kernel
theorem dX4_reckonWithRegister_84 : decode cX4_reckonWithRegister 84 = .ok (.aload_n 0, 1) := by decide +kernel
theorem dX4_reckonWithRegister_85 : decode cX4_reckonWithRegister 85 = .ok (.iload_n 1, 1) := by decide +kernel
theorem dX4_reckonWithRegister_86 : decode cX4_reckonWithRegister 86 = .ok (.iload_n 2, 1) := by decide +kernel
theorem dX4_reckonWithRegister_87 : decode cX4_reckonWithRegister 87 = .ok (.iload_n 3, 1) := by decide +kernel
theorem dX4_reckonWithRegister_88 : decode cX4_reckonWithRegister 88 = .ok (.bipush 32, 2) := by decide +kernel
theorem dX4_reckonWithRegister_90 : decode cX4_reckonWithRegister 90 = .ok (.if_icmp .ne 7, 3) := by decide +kernel
theorem dX4_reckonWithRegister_93 : decode cX4_reckonWithRegister 93 = .ok (.iconst 1, 1) := by decide +kernel
theorem dX4_reckonWithRegister_94 : decode cX4_reckonWithRegister 94 = .ok (.goto 4, 3) := by decide +kernel
theorem dX4_reckonWithRegister_97 : decode cX4_reckonWithRegister 97 = .ok (.iconst 0, 1) := by decide +kernel
theorem dX4_reckonWithRegister_98 : decode cX4_reckonWithRegister 98 = .ok (.iload 4, 2) := by decide +kernel
theorem dX4_reckonWithRegister_100 : decode cX4_reckonWithRegister 100 = .ok (.iload 5, 2) := by decide +kernel
theorem dX4_reckonWithRegister_102 : decode cX4_reckonWithRegister 102 = .ok (.invokestatic 233, 3) := by decide +kernel
theorem dX4_reckonWithRegister_105 : decode cX4_reckonWithRegister 105 = .ok (.invokevirtual 138, 3) := by decide +kernel
theorem dX4_reckonWithRegister_108 : decode cX4_reckonWithRegister 108 = .ok (.ireturn, 1) := by decide +kernel
theorem dX4_reckoned_0 : decode cX4_reckoned 0 = .ok (.iload_n 0, 1) := by decide +kernel
theorem dX4_reckoned_1 : decode cX4_reckoned 1 = .ok (.tableswitch 117 0 6 #[43, 57, 64, 75, 89, 93, 113], 43) := by decide +kernel
theorem dX4_reckoned_44 : decode cX4_reckoned 44 = .ok (.iload_n 1, 1) := by decide +kernel
theorem dX4_reckoned_45 : decode cX4_reckoned 45 = .ok (.ifCond .eq 9, 3) := by decide +kernel
theorem dX4_reckoned_48 : decode cX4_reckoned 48 = .ok (.iload_n 2, 1) := by decide +kernel
theorem dX4_reckoned_49 : decode cX4_reckoned 49 = .ok (.iload_n 3, 1) := by decide +kernel
theorem dX4_reckoned_50 : decode cX4_reckoned 50 = .ok (.isub, 1) := by decide +kernel
theorem dX4_reckoned_51 : decode cX4_reckoned 51 = .ok (.goto 6, 3) := by decide +kernel
theorem dX4_reckoned_54 : decode cX4_reckoned 54 = .ok (.iload_n 2, 1) := by decide +kernel
theorem dX4_reckoned_55 : decode cX4_reckoned 55 = .ok (.iload_n 3, 1) := by decide +kernel
theorem dX4_reckoned_56 : decode cX4_reckoned 56 = .ok (.iadd, 1) := by decide +kernel
theorem dX4_reckoned_57 : decode cX4_reckoned 57 = .ok (.ireturn, 1) := by decide +kernel
theorem dX4_reckoned_58 : decode cX4_reckoned 58 = .ok (.iload_n 2, 1) := by decide +kernel
theorem dX4_reckoned_59 : decode cX4_reckoned 59 = .ok (.iload_n 3, 1) := by decide +kernel
theorem dX4_reckoned_60 : decode cX4_reckoned 60 = .ok (.bipush 31, 2) := by decide +kernel
theorem dX4_reckoned_62 : decode cX4_reckoned 62 = .ok (.iand, 1) := by decide +kernel
theorem dX4_reckoned_63 : decode cX4_reckoned 63 = .ok (.ishl, 1) := by decide +kernel
theorem dX4_reckoned_64 : decode cX4_reckoned 64 = .ok (.ireturn, 1) := by decide +kernel
theorem dX4_reckoned_65 : decode cX4_reckoned 65 = .ok (.iload_n 2, 1) := by decide +kernel
theorem dX4_reckoned_66 : decode cX4_reckoned 66 = .ok (.iload_n 3, 1) := by decide +kernel
theorem dX4_reckoned_67 : decode cX4_reckoned 67 = .ok (.if_icmp .ge 7, 3) := by decide +kernel
theorem dX4_reckoned_70 : decode cX4_reckoned 70 = .ok (.iconst 1, 1) := by decide +kernel
theorem dX4_reckoned_71 : decode cX4_reckoned 71 = .ok (.goto 4, 3) := by decide +kernel
theorem dX4_reckoned_74 : decode cX4_reckoned 74 = .ok (.iconst 0, 1) := by decide +kernel
theorem dX4_reckoned_75 : decode cX4_reckoned 75 = .ok (.ireturn, 1) := by decide +kernel
theorem dX4_reckoned_76 : decode cX4_reckoned 76 = .ok (.iload_n 2, 1) := by decide +kernel
theorem dX4_reckoned_77 : decode cX4_reckoned 77 = .ok (.iload_n 3, 1) := by decide +kernel
theorem dX4_reckoned_78 : decode cX4_reckoned 78 = .ok (.invokestatic 201, 3) := by decide +kernel
theorem dX4_reckoned_81 : decode cX4_reckoned 81 = .ok (.ifCond .eq 7, 3) := by decide +kernel
theorem dX4_reckoned_84 : decode cX4_reckoned 84 = .ok (.iconst 1, 1) := by decide +kernel
theorem dX4_reckoned_85 : decode cX4_reckoned 85 = .ok (.goto 4, 3) := by decide +kernel
theorem dX4_reckoned_88 : decode cX4_reckoned 88 = .ok (.iconst 0, 1) := by decide +kernel
theorem dX4_reckoned_89 : decode cX4_reckoned 89 = .ok (.ireturn, 1) := by decide +kernel
theorem dX4_reckoned_90 : decode cX4_reckoned 90 = .ok (.iload_n 2, 1) := by decide +kernel
theorem dX4_reckoned_91 : decode cX4_reckoned 91 = .ok (.iload_n 3, 1) := by decide +kernel
theorem dX4_reckoned_92 : decode cX4_reckoned 92 = .ok (.ixor, 1) := by decide +kernel
theorem dX4_reckoned_93 : decode cX4_reckoned 93 = .ok (.ireturn, 1) := by decide +kernel
theorem dX4_reckoned_94 : decode cX4_reckoned 94 = .ok (.iload_n 1, 1) := by decide +kernel
theorem dX4_reckoned_95 : decode cX4_reckoned 95 = .ok (.ifCond .eq 12, 3) := by decide +kernel
theorem dX4_reckoned_98 : decode cX4_reckoned 98 = .ok (.iload_n 2, 1) := by decide +kernel
theorem dX4_reckoned_99 : decode cX4_reckoned 99 = .ok (.iload_n 3, 1) := by decide +kernel
theorem dX4_reckoned_100 : decode cX4_reckoned 100 = .ok (.bipush 31, 2) := by decide +kernel
theorem dX4_reckoned_102 : decode cX4_reckoned 102 = .ok (.iand, 1) := by decide +kernel
theorem dX4_reckoned_103 : decode cX4_reckoned 103 = .ok (.ishr, 1) := by decide +kernel
theorem dX4_reckoned_104 : decode cX4_reckoned 104 = .ok (.goto 9, 3) := by decide +kernel
theorem dX4_reckoned_107 : decode cX4_reckoned 107 = .ok (.iload_n 2, 1) := by decide +kernel
theorem dX4_reckoned_108 : decode cX4_reckoned 108 = .ok (.iload_n 3, 1) := by decide +kernel
theorem dX4_reckoned_109 : decode cX4_reckoned 109 = .ok (.bipush 31, 2) := by decide +kernel
theorem dX4_reckoned_111 : decode cX4_reckoned 111 = .ok (.iand, 1) := by decide +kernel
theorem dX4_reckoned_112 : decode cX4_reckoned 112 = .ok (.iushr, 1) := by decide +kernel
theorem dX4_reckoned_113 : decode cX4_reckoned 113 = .ok (.ireturn, 1) := by decide +kernel
theorem dX4_reckoned_114 : decode cX4_reckoned 114 = .ok (.iload_n 2, 1) := by decide +kernel
theorem dX4_reckoned_115 : decode cX4_reckoned 115 = .ok (.iload_n 3, 1) := by decide +kernel
theorem dX4_reckoned_116 : decode cX4_reckoned 116 = .ok (.ior, 1) := by decide +kernel
theorem dX4_reckoned_117 : decode cX4_reckoned 117 = .ok (.ireturn, 1) := by decide +kernel
theorem dX4_reckoned_118 : decode cX4_reckoned 118 = .ok (.iload_n 2, 1) := by decide +kernel
theorem dX4_reckoned_119 : decode cX4_reckoned 119 = .ok (.iload_n 3, 1) := by decide +kernel
theorem dX4_reckoned_120 : decode cX4_reckoned 120 = .ok (.iand, 1) := by decide +kernel
theorem dX4_reckoned_121 : decode cX4_reckoned 121 = .ok (.ireturn, 1) := by decide +kernel
theorem dX4_unsigned_0 : decode cX4_unsigned 0 = .ok (.iload_n 0, 1) := by decide +kernel
theorem dX4_unsigned_1 : decode cX4_unsigned 1 = .ok (.i2l, 1) := by decide +kernel
theorem dX4_unsigned_2 : decode cX4_unsigned 2 = .ok (.ldc2_w 243, 3) := by decide +kernel
theorem dX4_unsigned_5 : decode cX4_unsigned 5 = .ok (.land, 1) := by decide +kernel
theorem dX4_unsigned_6 : decode cX4_unsigned 6 = .ok (.lreturn, 1) := by decide +kernel
theorem dX4_product_0 : decode cX4_product 0 = .ok (.iload_n 0, 1) := by decide +kernel
theorem dX4_product_1 : decode cX4_product 1 = .ok (.tableswitch 53 0 2 #[27, 31, 41], 27) := by decide +kernel
theorem dX4_product_28 : decode cX4_product 28 = .ok (.iload_n 1, 1) := by decide +kernel
theorem dX4_product_29 : decode cX4_product 29 = .ok (.iload_n 2, 1) := by decide +kernel
theorem dX4_product_30 : decode cX4_product 30 = .ok (.imul, 1) := by decide +kernel
theorem dX4_product_31 : decode cX4_product 31 = .ok (.ireturn, 1) := by decide +kernel
theorem dX4_product_32 : decode cX4_product 32 = .ok (.iload_n 1, 1) := by decide +kernel
theorem dX4_product_33 : decode cX4_product 33 = .ok (.i2l, 1) := by decide +kernel
theorem dX4_product_34 : decode cX4_product 34 = .ok (.iload_n 2, 1) := by decide +kernel
theorem dX4_product_35 : decode cX4_product 35 = .ok (.i2l, 1) := by decide +kernel
theorem dX4_product_36 : decode cX4_product 36 = .ok (.lmul, 1) := by decide +kernel
theorem dX4_product_37 : decode cX4_product 37 = .ok (.bipush 32, 2) := by decide +kernel
theorem dX4_product_39 : decode cX4_product 39 = .ok (.lshr, 1) := by decide +kernel
theorem dX4_product_40 : decode cX4_product 40 = .ok (.l2i, 1) := by decide +kernel
theorem dX4_product_41 : decode cX4_product 41 = .ok (.ireturn, 1) := by decide +kernel
theorem dX4_product_42 : decode cX4_product 42 = .ok (.iload_n 1, 1) := by decide +kernel
theorem dX4_product_43 : decode cX4_product 43 = .ok (.i2l, 1) := by decide +kernel
theorem dX4_product_44 : decode cX4_product 44 = .ok (.iload_n 2, 1) := by decide +kernel
theorem dX4_product_45 : decode cX4_product 45 = .ok (.invokestatic 245, 3) := by decide +kernel
theorem dX4_product_48 : decode cX4_product 48 = .ok (.lmul, 1) := by decide +kernel
theorem dX4_product_49 : decode cX4_product 49 = .ok (.bipush 32, 2) := by decide +kernel
theorem dX4_product_51 : decode cX4_product 51 = .ok (.lshr, 1) := by decide +kernel
theorem dX4_product_52 : decode cX4_product 52 = .ok (.l2i, 1) := by decide +kernel
theorem dX4_product_53 : decode cX4_product 53 = .ok (.ireturn, 1) := by decide +kernel
theorem dX4_product_54 : decode cX4_product 54 = .ok (.iload_n 1, 1) := by decide +kernel
theorem dX4_product_55 : decode cX4_product 55 = .ok (.invokestatic 245, 3) := by decide +kernel
theorem dX4_product_58 : decode cX4_product 58 = .ok (.iload_n 2, 1) := by decide +kernel
theorem dX4_product_59 : decode cX4_product 59 = .ok (.invokestatic 245, 3) := by decide +kernel
theorem dX4_product_62 : decode cX4_product 62 = .ok (.lmul, 1) := by decide +kernel
theorem dX4_product_63 : decode cX4_product 63 = .ok (.bipush 32, 2) := by decide +kernel
theorem dX4_product_65 : decode cX4_product 65 = .ok (.lshr, 1) := by decide +kernel
theorem dX4_product_66 : decode cX4_product 66 = .ok (.l2i, 1) := by decide +kernel
theorem dX4_product_67 : decode cX4_product 67 = .ok (.ireturn, 1) := by decide +kernel
theorem dX4_divided_0 : decode cX4_divided 0 = .ok (.iload_n 0, 1) := by decide +kernel
theorem dX4_divided_1 : decode cX4_divided 1 = .ok (.bipush 6, 2) := by decide +kernel
theorem dX4_divided_3 : decode cX4_divided 3 = .ok (.if_icmp .lt 7, 3) := by decide +kernel
theorem dX4_divided_6 : decode cX4_divided 6 = .ok (.iconst 1, 1) := by decide +kernel
theorem dX4_divided_7 : decode cX4_divided 7 = .ok (.goto 4, 3) := by decide +kernel
theorem dX4_divided_10 : decode cX4_divided 10 = .ok (.iconst 0, 1) := by decide +kernel
theorem dX4_divided_11 : decode cX4_divided 11 = .ok (.istore_n 3, 1) := by decide +kernel
theorem dX4_divided_12 : decode cX4_divided 12 = .ok (.iload_n 2, 1) := by decide +kernel
theorem dX4_divided_13 : decode cX4_divided 13 = .ok (.ifCond .ne 13, 3) := by decide +kernel
theorem dX4_divided_16 : decode cX4_divided 16 = .ok (.iload_n 3, 1) := by decide +kernel
theorem dX4_divided_17 : decode cX4_divided 17 = .ok (.ifCond .eq 7, 3) := by decide +kernel
theorem dX4_divided_20 : decode cX4_divided 20 = .ok (.iload_n 1, 1) := by decide +kernel
theorem dX4_divided_21 : decode cX4_divided 21 = .ok (.goto 4, 3) := by decide +kernel
theorem dX4_divided_24 : decode cX4_divided 24 = .ok (.iconst (-1), 1) := by decide +kernel
theorem dX4_divided_25 : decode cX4_divided 25 = .ok (.ireturn, 1) := by decide +kernel
theorem dX4_divided_26 : decode cX4_divided 26 = .ok (.iload_n 0, 1) := by decide +kernel
theorem dX4_divided_27 : decode cX4_divided 27 = .ok (.iconst 1, 1) := by decide +kernel
theorem dX4_divided_28 : decode cX4_divided 28 = .ok (.iand, 1) := by decide +kernel
theorem dX4_divided_29 : decode cX4_divided 29 = .ok (.ifCond .ne 7, 3) := by decide +kernel
theorem dX4_divided_32 : decode cX4_divided 32 = .ok (.iconst 1, 1) := by decide +kernel
theorem dX4_divided_33 : decode cX4_divided 33 = .ok (.goto 4, 3) := by decide +kernel
theorem dX4_divided_36 : decode cX4_divided 36 = .ok (.iconst 0, 1) := by decide +kernel
theorem dX4_divided_37 : decode cX4_divided 37 = .ok (.istore 4, 2) := by decide +kernel
theorem dX4_divided_39 : decode cX4_divided 39 = .ok (.iload 4, 2) := by decide +kernel
theorem dX4_divided_41 : decode cX4_divided 41 = .ok (.ifCond .eq 8, 3) := by decide +kernel
theorem dX4_divided_44 : decode cX4_divided 44 = .ok (.iload_n 1, 1) := by decide +kernel
theorem dX4_divided_45 : decode cX4_divided 45 = .ok (.i2l, 1) := by decide +kernel
theorem dX4_divided_46 : decode cX4_divided 46 = .ok (.goto 7, 3) := by decide +kernel
theorem dX4_divided_49 : decode cX4_divided 49 = .ok (.iload_n 1, 1) := by decide +kernel
theorem dX4_divided_50 : decode cX4_divided 50 = .ok (.invokestatic 245, 3) := by decide +kernel
theorem dX4_divided_53 : decode cX4_divided 53 = .ok (.lstore 5, 2) := by decide +kernel
theorem dX4_divided_55 : decode cX4_divided 55 = .ok (.iload 4, 2) := by decide +kernel
theorem dX4_divided_57 : decode cX4_divided 57 = .ok (.ifCond .eq 8, 3) := by decide +kernel
theorem dX4_divided_60 : decode cX4_divided 60 = .ok (.iload_n 2, 1) := by decide +kernel
theorem dX4_divided_61 : decode cX4_divided 61 = .ok (.i2l, 1) := by decide +kernel
theorem dX4_divided_62 : decode cX4_divided 62 = .ok (.goto 7, 3) := by decide +kernel
theorem dX4_divided_65 : decode cX4_divided 65 = .ok (.iload_n 2, 1) := by decide +kernel
theorem dX4_divided_66 : decode cX4_divided 66 = .ok (.invokestatic 245, 3) := by decide +kernel
theorem dX4_divided_69 : decode cX4_divided 69 = .ok (.lstore 7, 2) := by decide +kernel
theorem dX4_divided_71 : decode cX4_divided 71 = .ok (.iload_n 3, 1) := by decide +kernel
theorem dX4_divided_72 : decode cX4_divided 72 = .ok (.ifCond .eq 11, 3) := by decide +kernel
theorem dX4_divided_75 : decode cX4_divided 75 = .ok (.lload 5, 2) := by decide +kernel
theorem dX4_divided_77 : decode cX4_divided 77 = .ok (.lload 7, 2) := by decide +kernel
theorem dX4_divided_79 : decode cX4_divided 79 = .ok (.lrem, 1) := by decide +kernel
theorem dX4_divided_80 : decode cX4_divided 80 = .ok (.goto 8, 3) := by decide +kernel
theorem dX4_divided_83 : decode cX4_divided 83 = .ok (.lload 5, 2) := by decide +kernel
theorem dX4_divided_85 : decode cX4_divided 85 = .ok (.lload 7, 2) := by decide +kernel
theorem dX4_divided_87 : decode cX4_divided 87 = .ok (.ldiv, 1) := by decide +kernel
theorem dX4_divided_88 : decode cX4_divided 88 = .ok (.l2i, 1) := by decide +kernel
theorem dX4_divided_89 : decode cX4_divided 89 = .ok (.ireturn, 1) := by decide +kernel
theorem dX4_system_0 : decode cX4_system 0 = .ok (.iload_n 1, 1) := by decide +kernel
theorem dX4_system_1 : decode cX4_system 1 = .ok (.lookupswitch 89 #[(115, 43), (1048691, 51), (273678451, 73), (807403635, 61)], 43) := by decide +kernel
theorem dX4_system_44 : decode cX4_system 44 = .ok (.aload_n 0, 1) := by decide +kernel
theorem dX4_system_45 : decode cX4_system 45 = .ok (.bipush 11, 2) := by decide +kernel
theorem dX4_system_47 : decode cX4_system 47 = .ok (.iconst 0, 1) := by decide +kernel
theorem dX4_system_48 : decode cX4_system 48 = .ok (.invokevirtual 135, 3) := by decide +kernel
theorem dX4_system_51 : decode cX4_system 51 = .ok (.ireturn, 1) := by decide +kernel
theorem dX4_system_52 : decode cX4_system 52 = .ok (.aload_n 0, 1) := by decide +kernel
theorem dX4_system_53 : decode cX4_system 53 = .ok (.iconst 3, 1) := by decide +kernel
theorem dX4_system_54 : decode cX4_system 54 = .ok (.aload_n 0, 1) := by decide +kernel
theorem dX4_system_55 : decode cX4_system 55 = .ok (.getfield 56, 3) := by decide +kernel
theorem dX4_system_58 : decode cX4_system 58 = .ok (.invokevirtual 135, 3) := by decide +kernel
theorem dX4_system_61 : decode cX4_system 61 = .ok (.ireturn, 1) := by decide +kernel
theorem dX4_system_62 : decode cX4_system 62 = .ok (.aload_n 0, 1) := by decide +kernel
theorem dX4_system_63 : decode cX4_system 63 = .ok (.aload_n 0, 1) := by decide +kernel
theorem dX4_system_64 : decode cX4_system 64 = .ok (.getfield 45, 3) := by decide +kernel
theorem dX4_system_67 : decode cX4_system 67 = .ok (.invokevirtual 249, 3) := by decide +kernel
theorem dX4_system_70 : decode cX4_system 70 = .ok (.invokevirtual 174, 3) := by decide +kernel
theorem dX4_system_73 : decode cX4_system 73 = .ok (.ireturn, 1) := by decide +kernel
theorem dX4_system_74 : decode cX4_system 74 = .ok (.aload_n 0, 1) := by decide +kernel
theorem dX4_system_75 : decode cX4_system 75 = .ok (.iconst 1, 1) := by decide +kernel
theorem dX4_system_76 : decode cX4_system 76 = .ok (.putfield 60, 3) := by decide +kernel
theorem dX4_system_79 : decode cX4_system 79 = .ok (.aload_n 0, 1) := by decide +kernel
theorem dX4_system_80 : decode cX4_system 80 = .ok (.aload_n 0, 1) := by decide +kernel
theorem dX4_system_81 : decode cX4_system 81 = .ok (.getfield 56, 3) := by decide +kernel
theorem dX4_system_84 : decode cX4_system 84 = .ok (.iconst 4, 1) := by decide +kernel
theorem dX4_system_85 : decode cX4_system 85 = .ok (.iadd, 1) := by decide +kernel
theorem dX4_system_86 : decode cX4_system 86 = .ok (.invokevirtual 174, 3) := by decide +kernel
theorem dX4_system_89 : decode cX4_system 89 = .ok (.ireturn, 1) := by decide +kernel
theorem dX4_system_90 : decode cX4_system 90 = .ok (.aload_n 0, 1) := by decide +kernel
theorem dX4_system_91 : decode cX4_system 91 = .ok (.iload_n 1, 1) := by decide +kernel
theorem dX4_system_92 : decode cX4_system 92 = .ok (.invokevirtual 156, 3) := by decide +kernel
theorem dX4_system_95 : decode cX4_system 95 = .ok (.ireturn, 1) := by decide +kernel
theorem dX4_control_0 : decode cX4_control 0 = .ok (.iload_n 1, 1) := by decide +kernel
theorem dX4_control_1 : decode cX4_control 1 = .ok (.invokestatic 147, 3) := by decide +kernel
theorem dX4_control_4 : decode cX4_control 4 = .ok (.istore_n 2, 1) := by decide +kernel
theorem dX4_control_5 : decode cX4_control 5 = .ok (.iload_n 2, 1) := by decide +kernel
theorem dX4_control_6 : decode cX4_control 6 = .ok (.iconst 3, 1) := by decide +kernel
theorem dX4_control_7 : decode cX4_control 7 = .ok (.iand, 1) := by decide +kernel
theorem dX4_control_8 : decode cX4_control 8 = .ok (.istore_n 3, 1) := by decide +kernel
theorem dX4_control_9 : decode cX4_control 9 = .ok (.iload_n 1, 1) := by decide +kernel
theorem dX4_control_10 : decode cX4_control 10 = .ok (.bipush 20, 2) := by decide +kernel
theorem dX4_control_12 : decode cX4_control 12 = .ok (.iushr, 1) := by decide +kernel
theorem dX4_control_13 : decode cX4_control 13 = .ok (.istore 4, 2) := by decide +kernel
theorem dX4_control_15 : decode cX4_control 15 = .ok (.iload_n 3, 1) := by decide +kernel
theorem dX4_control_16 : decode cX4_control 16 = .ok (.iconst 1, 1) := by decide +kernel
theorem dX4_control_17 : decode cX4_control 17 = .ok (.if_icmp .eq 10, 3) := by decide +kernel
theorem dX4_control_20 : decode cX4_control 20 = .ok (.iload_n 1, 1) := by decide +kernel
theorem dX4_control_21 : decode cX4_control 21 = .ok (.invokestatic 188, 3) := by decide +kernel
theorem dX4_control_24 : decode cX4_control 24 = .ok (.ifCond .eq 7, 3) := by decide +kernel
theorem dX4_control_27 : decode cX4_control 27 = .ok (.iconst 1, 1) := by decide +kernel
theorem dX4_control_28 : decode cX4_control 28 = .ok (.goto 4, 3) := by decide +kernel
theorem dX4_control_31 : decode cX4_control 31 = .ok (.iconst 0, 1) := by decide +kernel
theorem dX4_control_32 : decode cX4_control 32 = .ok (.istore 5, 2) := by decide +kernel
theorem dX4_control_34 : decode cX4_control 34 = .ok (.iload_n 3, 1) := by decide +kernel
theorem dX4_control_35 : decode cX4_control 35 = .ok (.ifCond .eq 24, 3) := by decide +kernel
theorem dX4_control_38 : decode cX4_control 38 = .ok (.iload 4, 2) := by decide +kernel
theorem dX4_control_40 : decode cX4_control 40 = .ok (.invokestatic 95, 3) := by decide +kernel
theorem dX4_control_43 : decode cX4_control 43 = .ok (.ifCond .eq 16, 3) := by decide +kernel
theorem dX4_control_46 : decode cX4_control 46 = .ok (.iload 5, 2) := by decide +kernel
theorem dX4_control_48 : decode cX4_control 48 = .ok (.ifCond .eq 17, 3) := by decide +kernel
theorem dX4_control_51 : decode cX4_control 51 = .ok (.iload 4, 2) := by decide +kernel
theorem dX4_control_53 : decode cX4_control 53 = .ok (.sipush 3072, 3) := by decide +kernel
theorem dX4_control_56 : decode cX4_control 56 = .ok (.if_icmp .lt 9, 3) := by decide +kernel
theorem dX4_control_59 : decode cX4_control 59 = .ok (.aload_n 0, 1) := by decide +kernel
theorem dX4_control_60 : decode cX4_control 60 = .ok (.iload_n 1, 1) := by decide +kernel
theorem dX4_control_61 : decode cX4_control 61 = .ok (.invokevirtual 156, 3) := by decide +kernel
theorem dX4_control_64 : decode cX4_control 64 = .ok (.ireturn, 1) := by decide +kernel
theorem dX4_control_65 : decode cX4_control 65 = .ok (.aload_n 0, 1) := by decide +kernel
theorem dX4_control_66 : decode cX4_control 66 = .ok (.getfield 45, 3) := by decide +kernel
theorem dX4_control_69 : decode cX4_control 69 = .ok (.iload 4, 2) := by decide +kernel
theorem dX4_control_71 : decode cX4_control 71 = .ok (.aload_n 0, 1) := by decide +kernel
theorem dX4_control_72 : decode cX4_control 72 = .ok (.getfield 31, 3) := by decide +kernel
theorem dX4_control_75 : decode cX4_control 75 = .ok (.invokevirtual 98, 3) := by decide +kernel
theorem dX4_control_78 : decode cX4_control 78 = .ok (.invokevirtual 102, 3) := by decide +kernel
theorem dX4_control_81 : decode cX4_control 81 = .ok (.istore 6, 2) := by decide +kernel
theorem dX4_control_83 : decode cX4_control 83 = .ok (.iload_n 2, 1) := by decide +kernel
theorem dX4_control_84 : decode cX4_control 84 = .ok (.iconst 4, 1) := by decide +kernel
theorem dX4_control_85 : decode cX4_control 85 = .ok (.if_icmp .ge 11, 3) := by decide +kernel
theorem dX4_control_88 : decode cX4_control 88 = .ok (.aload_n 0, 1) := by decide +kernel
theorem dX4_control_89 : decode cX4_control 89 = .ok (.iload_n 1, 1) := by decide +kernel
theorem dX4_control_90 : decode cX4_control 90 = .ok (.invokevirtual 150, 3) := by decide +kernel
theorem dX4_control_93 : decode cX4_control 93 = .ok (.goto 7, 3) := by decide +kernel
theorem dX4_control_96 : decode cX4_control 96 = .ok (.iload_n 1, 1) := by decide +kernel
theorem dX4_control_97 : decode cX4_control 97 = .ok (.invokestatic 188, 3) := by decide +kernel
theorem dX4_control_100 : decode cX4_control 100 = .ok (.istore 7, 2) := by decide +kernel
theorem dX4_control_102 : decode cX4_control 102 = .ok (.iload 5, 2) := by decide +kernel
theorem dX4_control_104 : decode cX4_control 104 = .ok (.ifCond .eq 42, 3) := by decide +kernel
theorem dX4_control_107 : decode cX4_control 107 = .ok (.aload_n 0, 1) := by decide +kernel
theorem dX4_control_108 : decode cX4_control 108 = .ok (.getfield 45, 3) := by decide +kernel
theorem dX4_control_111 : decode cX4_control 111 = .ok (.iload 4, 2) := by decide +kernel
theorem dX4_control_113 : decode cX4_control 113 = .ok (.iload_n 3, 1) := by decide +kernel
theorem dX4_control_114 : decode cX4_control 114 = .ok (.iconst 1, 1) := by decide +kernel
theorem dX4_control_115 : decode cX4_control 115 = .ok (.if_icmp .ne 8, 3) := by decide +kernel
theorem dX4_control_118 : decode cX4_control 118 = .ok (.iload 7, 2) := by decide +kernel
theorem dX4_control_120 : decode cX4_control 120 = .ok (.goto 23, 3) := by decide +kernel
theorem dX4_control_123 : decode cX4_control 123 = .ok (.iload_n 3, 1) := by decide +kernel
theorem dX4_control_124 : decode cX4_control 124 = .ok (.iconst 2, 1) := by decide +kernel
theorem dX4_control_125 : decode cX4_control 125 = .ok (.if_icmp .ne 11, 3) := by decide +kernel
theorem dX4_control_128 : decode cX4_control 128 = .ok (.iload 6, 2) := by decide +kernel
theorem dX4_control_130 : decode cX4_control 130 = .ok (.iload 7, 2) := by decide +kernel
theorem dX4_control_132 : decode cX4_control 132 = .ok (.ior, 1) := by decide +kernel
theorem dX4_control_133 : decode cX4_control 133 = .ok (.goto 10, 3) := by decide +kernel
theorem dX4_control_136 : decode cX4_control 136 = .ok (.iload 6, 2) := by decide +kernel
theorem dX4_control_138 : decode cX4_control 138 = .ok (.iload 7, 2) := by decide +kernel
theorem dX4_control_140 : decode cX4_control 140 = .ok (.iconst (-1), 1) := by decide +kernel
theorem dX4_control_141 : decode cX4_control 141 = .ok (.ixor, 1) := by decide +kernel
theorem dX4_control_142 : decode cX4_control 142 = .ok (.iand, 1) := by decide +kernel
theorem dX4_control_143 : decode cX4_control 143 = .ok (.invokevirtual 252, 3) := by decide +kernel
theorem dX4_control_146 : decode cX4_control 146 = .ok (.aload_n 0, 1) := by decide +kernel
theorem dX4_control_147 : decode cX4_control 147 = .ok (.iload_n 1, 1) := by decide +kernel
theorem dX4_control_148 : decode cX4_control 148 = .ok (.iload 6, 2) := by decide +kernel
theorem dX4_control_150 : decode cX4_control 150 = .ok (.invokevirtual 138, 3) := by decide +kernel
theorem dX4_control_153 : decode cX4_control 153 = .ok (.ireturn, 1) := by decide +kernel
theorem dX5_init_0 : decode cX5_init 0 = .ok (.aload_n 0, 1) := by decide +kernel
theorem dX5_init_1 : decode cX5_init 1 = .ok (.invokespecial 1, 3) := by decide +kernel
theorem dX5_init_4 : decode cX5_init 4 = .ok (.aload_n 0, 1) := by decide +kernel
theorem dX5_init_5 : decode cX5_init 5 = .ok (.ldc 7, 2) := by decide +kernel
theorem dX5_init_7 : decode cX5_init 7 = .ok (.newarray .int, 2) := by decide +kernel
theorem dX5_init_9 : decode cX5_init 9 = .ok (.putfield 8, 3) := by decide +kernel
theorem dX5_init_12 : decode cX5_init 12 = .ok (.aload_n 0, 1) := by decide +kernel
theorem dX5_init_13 : decode cX5_init 13 = .ok (.bipush 32, 2) := by decide +kernel
theorem dX5_init_15 : decode cX5_init 15 = .ok (.newarray .int, 2) := by decide +kernel
theorem dX5_init_17 : decode cX5_init 17 = .ok (.putfield 14, 3) := by decide +kernel
theorem dX5_init_20 : decode cX5_init 20 = .ok (.aload_n 0, 1) := by decide +kernel
theorem dX5_init_21 : decode cX5_init 21 = .ok (.sipush 4096, 3) := by decide +kernel
theorem dX5_init_24 : decode cX5_init 24 = .ok (.newarray .int, 2) := by decide +kernel
theorem dX5_init_26 : decode cX5_init 26 = .ok (.putfield 17, 3) := by decide +kernel
theorem dX5_init_29 : decode cX5_init 29 = .ok (.iload_n 1, 1) := by decide +kernel
theorem dX5_init_30 : decode cX5_init 30 = .ok (.bipush 64, 2) := by decide +kernel
theorem dX5_init_32 : decode cX5_init 32 = .ok (.if_icmp .ge 8, 3) := by decide +kernel
theorem dX5_init_35 : decode cX5_init 35 = .ok (.bipush 64, 2) := by decide +kernel
theorem dX5_init_37 : decode cX5_init 37 = .ok (.goto 15, 3) := by decide +kernel
theorem dX5_init_40 : decode cX5_init 40 = .ok (.iload_n 1, 1) := by decide +kernel
theorem dX5_init_41 : decode cX5_init 41 = .ok (.ldc 7, 2) := by decide +kernel
theorem dX5_init_43 : decode cX5_init 43 = .ok (.if_icmp .le 8, 3) := by decide +kernel
theorem dX5_init_46 : decode cX5_init 46 = .ok (.ldc 7, 2) := by decide +kernel
theorem dX5_init_48 : decode cX5_init 48 = .ok (.goto 4, 3) := by decide +kernel
theorem dX5_init_51 : decode cX5_init 51 = .ok (.iload_n 1, 1) := by decide +kernel
theorem dX5_init_52 : decode cX5_init 52 = .ok (.istore_n 3, 1) := by decide +kernel
theorem dX5_init_53 : decode cX5_init 53 = .ok (.aload_n 0, 1) := by decide +kernel
theorem dX5_init_54 : decode cX5_init 54 = .ok (.iload_n 3, 1) := by decide +kernel
theorem dX5_init_55 : decode cX5_init 55 = .ok (.bipush (-4), 2) := by decide +kernel
theorem dX5_init_57 : decode cX5_init 57 = .ok (.iand, 1) := by decide +kernel
theorem dX5_init_58 : decode cX5_init 58 = .ok (.putfield 20, 3) := by decide +kernel
theorem dX5_init_61 : decode cX5_init 61 = .ok (.aload_n 0, 1) := by decide +kernel
theorem dX5_init_62 : decode cX5_init 62 = .ok (.iload_n 2, 1) := by decide +kernel
theorem dX5_init_63 : decode cX5_init 63 = .ok (.ifCond .ge 7, 3) := by decide +kernel
theorem dX5_init_66 : decode cX5_init 66 = .ok (.iconst 0, 1) := by decide +kernel
theorem dX5_init_67 : decode cX5_init 67 = .ok (.goto 17, 3) := by decide +kernel
theorem dX5_init_70 : decode cX5_init 70 = .ok (.iload_n 2, 1) := by decide +kernel
theorem dX5_init_71 : decode cX5_init 71 = .ok (.sipush 4096, 3) := by decide +kernel
theorem dX5_init_74 : decode cX5_init 74 = .ok (.if_icmp .le 9, 3) := by decide +kernel
theorem dX5_init_77 : decode cX5_init 77 = .ok (.sipush 4096, 3) := by decide +kernel
theorem dX5_init_80 : decode cX5_init 80 = .ok (.goto 4, 3) := by decide +kernel
theorem dX5_init_83 : decode cX5_init 83 = .ok (.iload_n 2, 1) := by decide +kernel
theorem dX5_init_84 : decode cX5_init 84 = .ok (.putfield 24, 3) := by decide +kernel
theorem dX5_init_87 : decode cX5_init 87 = .ok (.aload_n 0, 1) := by decide +kernel
theorem dX5_init_88 : decode cX5_init 88 = .ok (.invokevirtual 27, 3) := by decide +kernel
theorem dX5_init_91 : decode cX5_init 91 = .ok (.return_, 1) := by decide +kernel
theorem dX5_reset_0 : decode cX5_reset 0 = .ok (.iconst 0, 1) := by decide +kernel
theorem dX5_reset_1 : decode cX5_reset 1 = .ok (.istore_n 1, 1) := by decide +kernel
theorem dX5_reset_2 : decode cX5_reset 2 = .ok (.iload_n 1, 1) := by decide +kernel
theorem dX5_reset_3 : decode cX5_reset 3 = .ok (.bipush 32, 2) := by decide +kernel
theorem dX5_reset_5 : decode cX5_reset 5 = .ok (.if_icmp .ge 16, 3) := by decide +kernel
theorem dX5_reset_8 : decode cX5_reset 8 = .ok (.aload_n 0, 1) := by decide +kernel
theorem dX5_reset_9 : decode cX5_reset 9 = .ok (.getfield 14, 3) := by decide +kernel
theorem dX5_reset_12 : decode cX5_reset 12 = .ok (.iload_n 1, 1) := by decide +kernel
theorem dX5_reset_13 : decode cX5_reset 13 = .ok (.iconst 0, 1) := by decide +kernel
theorem dX5_reset_14 : decode cX5_reset 14 = .ok (.iastore, 1) := by decide +kernel
theorem dX5_reset_15 : decode cX5_reset 15 = .ok (.iinc 1 1, 3) := by decide +kernel
theorem dX5_reset_18 : decode cX5_reset 18 = .ok (.goto (-16), 3) := by decide +kernel
theorem dX5_reset_21 : decode cX5_reset 21 = .ok (.aload_n 0, 1) := by decide +kernel
theorem dX5_reset_22 : decode cX5_reset 22 = .ok (.iconst 0, 1) := by decide +kernel
theorem dX5_reset_23 : decode cX5_reset 23 = .ok (.putfield 30, 3) := by decide +kernel
theorem dX5_reset_26 : decode cX5_reset 26 = .ok (.aload_n 0, 1) := by decide +kernel
theorem dX5_reset_27 : decode cX5_reset 27 = .ok (.iconst 0, 1) := by decide +kernel
theorem dX5_reset_28 : decode cX5_reset 28 = .ok (.putfield 33, 3) := by decide +kernel
theorem dX5_reset_31 : decode cX5_reset 31 = .ok (.aload_n 0, 1) := by decide +kernel
theorem dX5_reset_32 : decode cX5_reset 32 = .ok (.iconst 0, 1) := by decide +kernel
theorem dX5_reset_33 : decode cX5_reset 33 = .ok (.putfield 37, 3) := by decide +kernel
theorem dX5_reset_36 : decode cX5_reset 36 = .ok (.aload_n 0, 1) := by decide +kernel
theorem dX5_reset_37 : decode cX5_reset 37 = .ok (.iconst 0, 1) := by decide +kernel
theorem dX5_reset_38 : decode cX5_reset 38 = .ok (.putfield 40, 3) := by decide +kernel
theorem dX5_reset_41 : decode cX5_reset 41 = .ok (.aload_n 0, 1) := by decide +kernel
theorem dX5_reset_42 : decode cX5_reset 42 = .ok (.iconst 0, 1) := by decide +kernel
theorem dX5_reset_43 : decode cX5_reset 43 = .ok (.putfield 43, 3) := by decide +kernel
theorem dX5_reset_46 : decode cX5_reset 46 = .ok (.aload_n 0, 1) := by decide +kernel
theorem dX5_reset_47 : decode cX5_reset 47 = .ok (.iconst 0, 1) := by decide +kernel
theorem dX5_reset_48 : decode cX5_reset 48 = .ok (.putfield 46, 3) := by decide +kernel
theorem dX5_reset_51 : decode cX5_reset 51 = .ok (.aload_n 0, 1) := by decide +kernel
theorem dX5_reset_52 : decode cX5_reset 52 = .ok (.iconst 0, 1) := by decide +kernel
theorem dX5_reset_53 : decode cX5_reset 53 = .ok (.putfield 49, 3) := by decide +kernel
theorem dX5_reset_56 : decode cX5_reset 56 = .ok (.aload_n 0, 1) := by decide +kernel
theorem dX5_reset_57 : decode cX5_reset 57 = .ok (.iconst 0, 1) := by decide +kernel
theorem dX5_reset_58 : decode cX5_reset 58 = .ok (.putfield 52, 3) := by decide +kernel
theorem dX5_reset_61 : decode cX5_reset 61 = .ok (.aload_n 0, 1) := by decide +kernel
theorem dX5_reset_62 : decode cX5_reset 62 = .ok (.iconst 0, 1) := by decide +kernel
theorem dX5_reset_63 : decode cX5_reset 63 = .ok (.putfield 55, 3) := by decide +kernel
theorem dX5_reset_66 : decode cX5_reset 66 = .ok (.aload_n 0, 1) := by decide +kernel
theorem dX5_reset_67 : decode cX5_reset 67 = .ok (.lconst 0, 1) := by decide +kernel
theorem dX5_reset_68 : decode cX5_reset 68 = .ok (.putfield 58, 3) := by decide +kernel
theorem dX5_reset_71 : decode cX5_reset 71 = .ok (.aload_n 0, 1) := by decide +kernel
theorem dX5_reset_72 : decode cX5_reset 72 = .ok (.ldc2_w 62, 3) := by decide +kernel
theorem dX5_reset_75 : decode cX5_reset 75 = .ok (.putfield 64, 3) := by decide +kernel
theorem dX5_reset_78 : decode cX5_reset 78 = .ok (.aload_n 0, 1) := by decide +kernel
theorem dX5_reset_79 : decode cX5_reset 79 = .ok (.iconst 0, 1) := by decide +kernel
theorem dX5_reset_80 : decode cX5_reset 80 = .ok (.putfield 67, 3) := by decide +kernel
theorem dX5_reset_83 : decode cX5_reset 83 = .ok (.aload_n 0, 1) := by decide +kernel
theorem dX5_reset_84 : decode cX5_reset 84 = .ok (.lconst 0, 1) := by decide +kernel
theorem dX5_reset_85 : decode cX5_reset 85 = .ok (.putfield 70, 3) := by decide +kernel
theorem dX5_reset_88 : decode cX5_reset 88 = .ok (.aload_n 0, 1) := by decide +kernel
theorem dX5_reset_89 : decode cX5_reset 89 = .ok (.iconst 0, 1) := by decide +kernel
theorem dX5_reset_90 : decode cX5_reset 90 = .ok (.putfield 73, 3) := by decide +kernel
theorem dX5_reset_93 : decode cX5_reset 93 = .ok (.aload_n 0, 1) := by decide +kernel
theorem dX5_reset_94 : decode cX5_reset 94 = .ok (.iconst 0, 1) := by decide +kernel
theorem dX5_reset_95 : decode cX5_reset 95 = .ok (.putfield 76, 3) := by decide +kernel
theorem dX5_reset_98 : decode cX5_reset 98 = .ok (.return_, 1) := by decide +kernel
theorem dX5_isThere_0 : decode cX5_isThere 0 = .ok (.iload_n 1, 1) := by decide +kernel
theorem dX5_isThere_1 : decode cX5_isThere 1 = .ok (.ifCond .lt 17, 3) := by decide +kernel
theorem dX5_isThere_4 : decode cX5_isThere 4 = .ok (.iload_n 1, 1) := by decide +kernel
theorem dX5_isThere_5 : decode cX5_isThere 5 = .ok (.aload_n 0, 1) := by decide +kernel
theorem dX5_isThere_6 : decode cX5_isThere 6 = .ok (.getfield 20, 3) := by decide +kernel
theorem dX5_isThere_9 : decode cX5_isThere 9 = .ok (.iload_n 2, 1) := by decide +kernel
theorem dX5_isThere_10 : decode cX5_isThere 10 = .ok (.isub, 1) := by decide +kernel
theorem dX5_isThere_11 : decode cX5_isThere 11 = .ok (.if_icmp .gt 7, 3) := by decide +kernel
theorem dX5_isThere_14 : decode cX5_isThere 14 = .ok (.iconst 1, 1) := by decide +kernel
theorem dX5_isThere_15 : decode cX5_isThere 15 = .ok (.goto 4, 3) := by decide +kernel
theorem dX5_isThere_18 : decode cX5_isThere 18 = .ok (.iconst 0, 1) := by decide +kernel
theorem dX5_isThere_19 : decode cX5_isThere 19 = .ok (.ireturn, 1) := by decide +kernel
theorem dX5_poke_0 : decode cX5_poke 0 = .ok (.aload_n 0, 1) := by decide +kernel
end
section
/-! decode rows -/
theorem dX5_poke_1 : decode cX5_poke 1 = .ok (.iload_n 1, 1) := by decide +kernel
theorem dX5_poke_2 : decode cX5_poke 2 = .ok (.iconst 1, 1) := by decide +kernel
theorem dX5_poke_3 : decode cX5_poke 3 = .ok (.invokevirtual 79, 3) := by decide +kernel
theorem dX5_poke_6 : decode cX5_poke 6 = .ok (.ifCond .ne 5, 3) := by decide +kernel
theorem dX5_poke_9 : decode cX5_poke 9 = .ok (.iconst 0, 1) := by decide +kernel
theorem dX5_poke_10 : decode cX5_poke 10 = .ok (.ireturn, 1) := by decide +kernel
theorem dX5_poke_11 : decode cX5_poke 11 = .ok (.aload_n 0, 1) := by decide +kernel
theorem dX5_poke_12 : decode cX5_poke 12 = .ok (.getfield 8, 3) := by decide +kernel
theorem dX5_poke_15 : decode cX5_poke 15 = .ok (.iload_n 1, 1) := by decide +kernel
theorem dX5_poke_16 : decode cX5_poke 16 = .ok (.iload_n 2, 1) := by decide +kernel
theorem dX5_poke_17 : decode cX5_poke 17 = .ok (.sipush 255, 3) := by decide +kernel
theorem dX5_poke_20 : decode cX5_poke 20 = .ok (.iand, 1) := by decide +kernel
theorem dX5_poke_21 : decode cX5_poke 21 = .ok (.iastore, 1) := by decide +kernel
theorem dX5_poke_22 : decode cX5_poke 22 = .ok (.iconst 1, 1) := by decide +kernel
theorem dX5_poke_23 : decode cX5_poke 23 = .ok (.ireturn, 1) := by decide +kernel
theorem dX5_load_0 : decode cX5_load 0 = .ok (.aload_n 0, 1) := by decide +kernel
theorem dX5_load_1 : decode cX5_load 1 = .ok (.iload_n 1, 1) := by decide +kernel
theorem dX5_load_2 : decode cX5_load 2 = .ok (.iconst 4, 1) := by decide +kernel
theorem dX5_load_3 : decode cX5_load 3 = .ok (.invokevirtual 79, 3) := by decide +kernel
theorem dX5_load_6 : decode cX5_load 6 = .ok (.ifCond .ne 5, 3) := by decide +kernel
theorem dX5_load_9 : decode cX5_load 9 = .ok (.iconst 0, 1) := by decide +kernel
theorem dX5_load_10 : decode cX5_load 10 = .ok (.ireturn, 1) := by decide +kernel
theorem dX5_load_11 : decode cX5_load 11 = .ok (.aload_n 0, 1) := by decide +kernel
theorem dX5_load_12 : decode cX5_load 12 = .ok (.iload_n 1, 1) := by decide +kernel
theorem dX5_load_13 : decode cX5_load 13 = .ok (.iconst 4, 1) := by decide +kernel
theorem dX5_load_14 : decode cX5_load 14 = .ok (.iload_n 2, 1) := by decide +kernel
theorem dX5_load_15 : decode cX5_load 15 = .ok (.invokevirtual 83, 3) := by decide +kernel
theorem dX5_load_18 : decode cX5_load 18 = .ok (.iconst 1, 1) := by decide +kernel
theorem dX5_load_19 : decode cX5_load 19 = .ok (.ireturn, 1) := by decide +kernel
theorem dX5_peek_0 : decode cX5_peek 0 = .ok (.aload_n 0, 1) := by decide +kernel
theorem dX5_peek_1 : decode cX5_peek 1 = .ok (.iload_n 1, 1) := by decide +kernel
theorem dX5_peek_2 : decode cX5_peek 2 = .ok (.iconst 1, 1) := by decide +kernel
theorem dX5_peek_3 : decode cX5_peek 3 = .ok (.invokevirtual 79, 3) := by decide +kernel
theorem dX5_peek_6 : decode cX5_peek 6 = .ok (.ifCond .eq 12, 3) := by decide +kernel
theorem dX5_peek_9 : decode cX5_peek 9 = .ok (.aload_n 0, 1) := by decide +kernel
theorem dX5_peek_10 : decode cX5_peek 10 = .ok (.getfield 8, 3) := by decide +kernel
theorem dX5_peek_13 : decode cX5_peek 13 = .ok (.iload_n 1, 1) := by decide +kernel
theorem dX5_peek_14 : decode cX5_peek 14 = .ok (.iaload, 1) := by decide +kernel
theorem dX5_peek_15 : decode cX5_peek 15 = .ok (.goto 4, 3) := by decide +kernel
theorem dX5_peek_18 : decode cX5_peek 18 = .ok (.iconst (-1), 1) := by decide +kernel
theorem dX5_peek_19 : decode cX5_peek 19 = .ok (.ireturn, 1) := by decide +kernel
theorem dX5_put_0 : decode cX5_put 0 = .ok (.iconst 0, 1) := by decide +kernel
theorem dX5_put_1 : decode cX5_put 1 = .ok (.istore 4, 2) := by decide +kernel
theorem dX5_put_3 : decode cX5_put 3 = .ok (.iload 4, 2) := by decide +kernel
theorem dX5_put_5 : decode cX5_put 5 = .ok (.iload_n 2, 1) := by decide +kernel
theorem dX5_put_6 : decode cX5_put 6 = .ok (.if_icmp .ge 29, 3) := by decide +kernel
theorem dX5_put_9 : decode cX5_put 9 = .ok (.aload_n 0, 1) := by decide +kernel
theorem dX5_put_10 : decode cX5_put 10 = .ok (.getfield 8, 3) := by decide +kernel
theorem dX5_put_13 : decode cX5_put 13 = .ok (.iload_n 1, 1) := by decide +kernel
theorem dX5_put_14 : decode cX5_put 14 = .ok (.iload 4, 2) := by decide +kernel
theorem dX5_put_16 : decode cX5_put 16 = .ok (.iadd, 1) := by decide +kernel
theorem dX5_put_17 : decode cX5_put 17 = .ok (.iload_n 3, 1) := by decide +kernel
theorem dX5_put_18 : decode cX5_put 18 = .ok (.bipush 8, 2) := by decide +kernel
theorem dX5_put_20 : decode cX5_put 20 = .ok (.iload 4, 2) := by decide +kernel
theorem dX5_put_22 : decode cX5_put 22 = .ok (.imul, 1) := by decide +kernel
theorem dX5_put_23 : decode cX5_put 23 = .ok (.ishr, 1) := by decide +kernel
theorem dX5_put_24 : decode cX5_put 24 = .ok (.sipush 255, 3) := by decide +kernel
theorem dX5_put_27 : decode cX5_put 27 = .ok (.iand, 1) := by decide +kernel
theorem dX5_put_28 : decode cX5_put 28 = .ok (.iastore, 1) := by decide +kernel
theorem dX5_put_29 : decode cX5_put 29 = .ok (.iinc 4 1, 3) := by decide +kernel
theorem dX5_put_32 : decode cX5_put 32 = .ok (.goto (-29), 3) := by decide +kernel
theorem dX5_put_35 : decode cX5_put 35 = .ok (.return_, 1) := by decide +kernel
theorem dX5_get_0 : decode cX5_get 0 = .ok (.iconst 0, 1) := by decide +kernel
theorem dX5_get_1 : decode cX5_get 1 = .ok (.istore_n 3, 1) := by decide +kernel
theorem dX5_get_2 : decode cX5_get 2 = .ok (.iload_n 2, 1) := by decide +kernel
theorem dX5_get_3 : decode cX5_get 3 = .ok (.iconst 1, 1) := by decide +kernel
theorem dX5_get_4 : decode cX5_get 4 = .ok (.isub, 1) := by decide +kernel
theorem dX5_get_5 : decode cX5_get 5 = .ok (.istore 4, 2) := by decide +kernel
theorem dX5_get_7 : decode cX5_get 7 = .ok (.iload 4, 2) := by decide +kernel
theorem dX5_get_9 : decode cX5_get 9 = .ok (.ifCond .lt 24, 3) := by decide +kernel
theorem dX5_get_12 : decode cX5_get 12 = .ok (.iload_n 3, 1) := by decide +kernel
theorem dX5_get_13 : decode cX5_get 13 = .ok (.bipush 8, 2) := by decide +kernel
theorem dX5_get_15 : decode cX5_get 15 = .ok (.ishl, 1) := by decide +kernel
theorem dX5_get_16 : decode cX5_get 16 = .ok (.aload_n 0, 1) := by decide +kernel
theorem dX5_get_17 : decode cX5_get 17 = .ok (.getfield 8, 3) := by decide +kernel
theorem dX5_get_20 : decode cX5_get 20 = .ok (.iload_n 1, 1) := by decide +kernel
theorem dX5_get_21 : decode cX5_get 21 = .ok (.iload 4, 2) := by decide +kernel
theorem dX5_get_23 : decode cX5_get 23 = .ok (.iadd, 1) := by decide +kernel
theorem dX5_get_24 : decode cX5_get 24 = .ok (.iaload, 1) := by decide +kernel
theorem dX5_get_25 : decode cX5_get 25 = .ok (.ior, 1) := by decide +kernel
theorem dX5_get_26 : decode cX5_get 26 = .ok (.istore_n 3, 1) := by decide +kernel
theorem dX5_get_27 : decode cX5_get 27 = .ok (.iinc 4 (-1), 3) := by decide +kernel
theorem dX5_get_30 : decode cX5_get 30 = .ok (.goto (-23), 3) := by decide +kernel
theorem dX5_get_33 : decode cX5_get 33 = .ok (.iload_n 3, 1) := by decide +kernel
theorem dX5_get_34 : decode cX5_get 34 = .ok (.ireturn, 1) := by decide +kernel
theorem dX5_isDue_0 : decode cX5_isDue 0 = .ok (.aload_n 0, 1) := by decide +kernel
theorem dX5_isDue_1 : decode cX5_isDue 1 = .ok (.getfield 58, 3) := by decide +kernel
theorem dX5_isDue_4 : decode cX5_isDue 4 = .ok (.ldc2_w 87, 3) := by decide +kernel
theorem dX5_isDue_7 : decode cX5_isDue 7 = .ok (.lxor, 1) := by decide +kernel
theorem dX5_isDue_8 : decode cX5_isDue 8 = .ok (.aload_n 0, 1) := by decide +kernel
theorem dX5_isDue_9 : decode cX5_isDue 9 = .ok (.getfield 64, 3) := by decide +kernel
theorem dX5_isDue_12 : decode cX5_isDue 12 = .ok (.ldc2_w 87, 3) := by decide +kernel
theorem dX5_isDue_15 : decode cX5_isDue 15 = .ok (.lxor, 1) := by decide +kernel
theorem dX5_isDue_16 : decode cX5_isDue 16 = .ok (.lcmp, 1) := by decide +kernel
theorem dX5_isDue_17 : decode cX5_isDue 17 = .ok (.ifCond .lt 7, 3) := by decide +kernel
theorem dX5_isDue_20 : decode cX5_isDue 20 = .ok (.iconst 1, 1) := by decide +kernel
theorem dX5_isDue_21 : decode cX5_isDue 21 = .ok (.goto 4, 3) := by decide +kernel
theorem dX5_isDue_24 : decode cX5_isDue 24 = .ok (.iconst 0, 1) := by decide +kernel
theorem dX5_isDue_25 : decode cX5_isDue 25 = .ok (.ireturn, 1) := by decide +kernel
theorem dX5_isListed_0 : decode cX5_isListed 0 = .ok (.iload_n 0, 1) := by decide +kernel
theorem dX5_isListed_1 : decode cX5_isListed 1 = .ok (.sipush 768, 3) := by decide +kernel
theorem dX5_isListed_4 : decode cX5_isListed 4 = .ok (.if_icmp .eq 45, 3) := by decide +kernel
theorem dX5_isListed_7 : decode cX5_isListed 7 = .ok (.iload_n 0, 1) := by decide +kernel
theorem dX5_isListed_8 : decode cX5_isListed 8 = .ok (.sipush 769, 3) := by decide +kernel
theorem dX5_isListed_11 : decode cX5_isListed 11 = .ok (.if_icmp .eq 38, 3) := by decide +kernel
theorem dX5_isListed_14 : decode cX5_isListed 14 = .ok (.iload_n 0, 1) := by decide +kernel
theorem dX5_isListed_15 : decode cX5_isListed 15 = .ok (.sipush 772, 3) := by decide +kernel
theorem dX5_isListed_18 : decode cX5_isListed 18 = .ok (.if_icmp .eq 31, 3) := by decide +kernel
theorem dX5_isListed_21 : decode cX5_isListed 21 = .ok (.iload_n 0, 1) := by decide +kernel
theorem dX5_isListed_22 : decode cX5_isListed 22 = .ok (.sipush 773, 3) := by decide +kernel
theorem dX5_isListed_25 : decode cX5_isListed 25 = .ok (.if_icmp .eq 24, 3) := by decide +kernel
theorem dX5_isListed_28 : decode cX5_isListed 28 = .ok (.iload_n 0, 1) := by decide +kernel
theorem dX5_isListed_29 : decode cX5_isListed 29 = .ok (.sipush 832, 3) := by decide +kernel
theorem dX5_isListed_32 : decode cX5_isListed 32 = .ok (.if_icmp .lt 10, 3) := by decide +kernel
theorem dX5_isListed_35 : decode cX5_isListed 35 = .ok (.iload_n 0, 1) := by decide +kernel
theorem dX5_isListed_36 : decode cX5_isListed 36 = .ok (.sipush 836, 3) := by decide +kernel
theorem dX5_isListed_39 : decode cX5_isListed 39 = .ok (.if_icmp .le 10, 3) := by decide +kernel
theorem dX5_isListed_42 : decode cX5_isListed 42 = .ok (.iload_n 0, 1) := by decide +kernel
theorem dX5_isListed_43 : decode cX5_isListed 43 = .ok (.sipush 3860, 3) := by decide +kernel
theorem dX5_isListed_46 : decode cX5_isListed 46 = .ok (.if_icmp .ne 7, 3) := by decide +kernel
theorem dX5_isListed_49 : decode cX5_isListed 49 = .ok (.iconst 1, 1) := by decide +kernel
theorem dX5_isListed_50 : decode cX5_isListed 50 = .ok (.goto 4, 3) := by decide +kernel
theorem dX5_isListed_53 : decode cX5_isListed 53 = .ok (.iconst 0, 1) := by decide +kernel
theorem dX5_isListed_54 : decode cX5_isListed 54 = .ok (.ireturn, 1) := by decide +kernel
theorem dX5_csr_0 : decode cX5_csr 0 = .ok (.iload_n 1, 1) := by decide +kernel
theorem dX5_csr_1 : decode cX5_csr 1 = .ok (.lookupswitch 164 #[(768, 83), (769, 116), (772, 119), (773, 124), (832, 129), (833, 134), (834, 139), (835, 144), (836, 149)], 83) := by decide +kernel
theorem dX5_csr_84 : decode cX5_csr 84 = .ok (.sipush 6144, 3) := by decide +kernel
theorem dX5_csr_87 : decode cX5_csr 87 = .ok (.aload_n 0, 1) := by decide +kernel
theorem dX5_csr_88 : decode cX5_csr 88 = .ok (.getfield 33, 3) := by decide +kernel
theorem dX5_csr_91 : decode cX5_csr 91 = .ok (.ifCond .eq 8, 3) := by decide +kernel
theorem dX5_csr_94 : decode cX5_csr 94 = .ok (.bipush 8, 2) := by decide +kernel
theorem dX5_csr_96 : decode cX5_csr 96 = .ok (.goto 4, 3) := by decide +kernel
theorem dX5_csr_99 : decode cX5_csr 99 = .ok (.iconst 0, 1) := by decide +kernel
theorem dX5_csr_100 : decode cX5_csr 100 = .ok (.ior, 1) := by decide +kernel
theorem dX5_csr_101 : decode cX5_csr 101 = .ok (.aload_n 0, 1) := by decide +kernel
theorem dX5_csr_102 : decode cX5_csr 102 = .ok (.getfield 37, 3) := by decide +kernel
theorem dX5_csr_105 : decode cX5_csr 105 = .ok (.ifCond .eq 9, 3) := by decide +kernel
theorem dX5_csr_108 : decode cX5_csr 108 = .ok (.sipush 128, 3) := by decide +kernel
theorem dX5_csr_111 : decode cX5_csr 111 = .ok (.goto 4, 3) := by decide +kernel
theorem dX5_csr_114 : decode cX5_csr 114 = .ok (.iconst 0, 1) := by decide +kernel
theorem dX5_csr_115 : decode cX5_csr 115 = .ok (.ior, 1) := by decide +kernel
theorem dX5_csr_116 : decode cX5_csr 116 = .ok (.ireturn, 1) := by decide +kernel
theorem dX5_csr_117 : decode cX5_csr 117 = .ok (.ldc 89, 2) := by decide +kernel
theorem dX5_csr_119 : decode cX5_csr 119 = .ok (.ireturn, 1) := by decide +kernel
theorem dX5_csr_120 : decode cX5_csr 120 = .ok (.aload_n 0, 1) := by decide +kernel
theorem dX5_csr_121 : decode cX5_csr 121 = .ok (.getfield 40, 3) := by decide +kernel
theorem dX5_csr_124 : decode cX5_csr 124 = .ok (.ireturn, 1) := by decide +kernel
theorem dX5_csr_125 : decode cX5_csr 125 = .ok (.aload_n 0, 1) := by decide +kernel
theorem dX5_csr_126 : decode cX5_csr 126 = .ok (.getfield 43, 3) := by decide +kernel
theorem dX5_csr_129 : decode cX5_csr 129 = .ok (.ireturn, 1) := by decide +kernel
theorem dX5_csr_130 : decode cX5_csr 130 = .ok (.aload_n 0, 1) := by decide +kernel
theorem dX5_csr_131 : decode cX5_csr 131 = .ok (.getfield 46, 3) := by decide +kernel
theorem dX5_csr_134 : decode cX5_csr 134 = .ok (.ireturn, 1) := by decide +kernel
theorem dX5_csr_135 : decode cX5_csr 135 = .ok (.aload_n 0, 1) := by decide +kernel
theorem dX5_csr_136 : decode cX5_csr 136 = .ok (.getfield 49, 3) := by decide +kernel
theorem dX5_csr_139 : decode cX5_csr 139 = .ok (.ireturn, 1) := by decide +kernel
theorem dX5_csr_140 : decode cX5_csr 140 = .ok (.aload_n 0, 1) := by decide +kernel
theorem dX5_csr_141 : decode cX5_csr 141 = .ok (.getfield 52, 3) := by decide +kernel
theorem dX5_csr_144 : decode cX5_csr 144 = .ok (.ireturn, 1) := by decide +kernel
theorem dX5_csr_145 : decode cX5_csr 145 = .ok (.aload_n 0, 1) := by decide +kernel
theorem dX5_csr_146 : decode cX5_csr 146 = .ok (.getfield 55, 3) := by decide +kernel
theorem dX5_csr_149 : decode cX5_csr 149 = .ok (.ireturn, 1) := by decide +kernel
theorem dX5_csr_150 : decode cX5_csr 150 = .ok (.aload_n 0, 1) := by decide +kernel
theorem dX5_csr_151 : decode cX5_csr 151 = .ok (.invokevirtual 90, 3) := by decide +kernel
theorem dX5_csr_154 : decode cX5_csr 154 = .ok (.ifCond .eq 9, 3) := by decide +kernel
theorem dX5_csr_157 : decode cX5_csr 157 = .ok (.sipush 128, 3) := by decide +kernel
theorem dX5_csr_160 : decode cX5_csr 160 = .ok (.goto 4, 3) := by decide +kernel
theorem dX5_csr_163 : decode cX5_csr 163 = .ok (.iconst 0, 1) := by decide +kernel
theorem dX5_csr_164 : decode cX5_csr 164 = .ok (.ireturn, 1) := by decide +kernel
theorem dX5_csr_165 : decode cX5_csr 165 = .ok (.iconst 0, 1) := by decide +kernel
theorem dX5_csr_166 : decode cX5_csr 166 = .ok (.ireturn, 1) := by decide +kernel
theorem dX5_setCsr_0 : decode cX5_setCsr 0 = .ok (.iload_n 1, 1) := by decide +kernel
theorem dX5_setCsr_1 : decode cX5_setCsr 1 = .ok (.lookupswitch 164 #[(768, 67), (772, 103), (773, 115), (832, 126), (833, 134), (834, 145), (835, 156)], 67) := by decide +kernel
theorem dX5_setCsr_68 : decode cX5_setCsr 68 = .ok (.aload_n 0, 1) := by decide +kernel
theorem dX5_setCsr_69 : decode cX5_setCsr 69 = .ok (.iload_n 2, 1) := by decide +kernel
theorem dX5_setCsr_70 : decode cX5_setCsr 70 = .ok (.bipush 8, 2) := by decide +kernel
theorem dX5_setCsr_72 : decode cX5_setCsr 72 = .ok (.iand, 1) := by decide +kernel
theorem dX5_setCsr_73 : decode cX5_setCsr 73 = .ok (.ifCond .eq 7, 3) := by decide +kernel
theorem dX5_setCsr_76 : decode cX5_setCsr 76 = .ok (.iconst 1, 1) := by decide +kernel
theorem dX5_setCsr_77 : decode cX5_setCsr 77 = .ok (.goto 4, 3) := by decide +kernel
theorem dX5_setCsr_80 : decode cX5_setCsr 80 = .ok (.iconst 0, 1) := by decide +kernel
theorem dX5_setCsr_81 : decode cX5_setCsr 81 = .ok (.putfield 33, 3) := by decide +kernel
theorem dX5_setCsr_84 : decode cX5_setCsr 84 = .ok (.aload_n 0, 1) := by decide +kernel
theorem dX5_setCsr_85 : decode cX5_setCsr 85 = .ok (.iload_n 2, 1) := by decide +kernel
theorem dX5_setCsr_86 : decode cX5_setCsr 86 = .ok (.sipush 128, 3) := by decide +kernel
theorem dX5_setCsr_89 : decode cX5_setCsr 89 = .ok (.iand, 1) := by decide +kernel
theorem dX5_setCsr_90 : decode cX5_setCsr 90 = .ok (.ifCond .eq 7, 3) := by decide +kernel
theorem dX5_setCsr_93 : decode cX5_setCsr 93 = .ok (.iconst 1, 1) := by decide +kernel
theorem dX5_setCsr_94 : decode cX5_setCsr 94 = .ok (.goto 4, 3) := by decide +kernel
theorem dX5_setCsr_97 : decode cX5_setCsr 97 = .ok (.iconst 0, 1) := by decide +kernel
theorem dX5_setCsr_98 : decode cX5_setCsr 98 = .ok (.putfield 37, 3) := by decide +kernel
theorem dX5_setCsr_101 : decode cX5_setCsr 101 = .ok (.goto 64, 3) := by decide +kernel
theorem dX5_setCsr_104 : decode cX5_setCsr 104 = .ok (.aload_n 0, 1) := by decide +kernel
theorem dX5_setCsr_105 : decode cX5_setCsr 105 = .ok (.iload_n 2, 1) := by decide +kernel
theorem dX5_setCsr_106 : decode cX5_setCsr 106 = .ok (.sipush 2184, 3) := by decide +kernel
theorem dX5_setCsr_109 : decode cX5_setCsr 109 = .ok (.iand, 1) := by decide +kernel
theorem dX5_setCsr_110 : decode cX5_setCsr 110 = .ok (.putfield 40, 3) := by decide +kernel
theorem dX5_setCsr_113 : decode cX5_setCsr 113 = .ok (.goto 52, 3) := by decide +kernel
theorem dX5_setCsr_116 : decode cX5_setCsr 116 = .ok (.aload_n 0, 1) := by decide +kernel
theorem dX5_setCsr_117 : decode cX5_setCsr 117 = .ok (.iload_n 2, 1) := by decide +kernel
theorem dX5_setCsr_118 : decode cX5_setCsr 118 = .ok (.bipush (-3), 2) := by decide +kernel
theorem dX5_setCsr_120 : decode cX5_setCsr 120 = .ok (.iand, 1) := by decide +kernel
theorem dX5_setCsr_121 : decode cX5_setCsr 121 = .ok (.putfield 43, 3) := by decide +kernel
theorem dX5_setCsr_124 : decode cX5_setCsr 124 = .ok (.goto 41, 3) := by decide +kernel
theorem dX5_setCsr_127 : decode cX5_setCsr 127 = .ok (.aload_n 0, 1) := by decide +kernel
theorem dX5_setCsr_128 : decode cX5_setCsr 128 = .ok (.iload_n 2, 1) := by decide +kernel
theorem dX5_setCsr_129 : decode cX5_setCsr 129 = .ok (.putfield 46, 3) := by decide +kernel
theorem dX5_setCsr_132 : decode cX5_setCsr 132 = .ok (.goto 33, 3) := by decide +kernel
theorem dX5_setCsr_135 : decode cX5_setCsr 135 = .ok (.aload_n 0, 1) := by decide +kernel
theorem dX5_setCsr_136 : decode cX5_setCsr 136 = .ok (.iload_n 2, 1) := by decide +kernel
theorem dX5_setCsr_137 : decode cX5_setCsr 137 = .ok (.bipush (-4), 2) := by decide +kernel
theorem dX5_setCsr_139 : decode cX5_setCsr 139 = .ok (.iand, 1) := by decide +kernel
theorem dX5_setCsr_140 : decode cX5_setCsr 140 = .ok (.putfield 49, 3) := by decide +kernel
theorem dX5_setCsr_143 : decode cX5_setCsr 143 = .ok (.goto 22, 3) := by decide +kernel
theorem dX5_setCsr_146 : decode cX5_setCsr 146 = .ok (.aload_n 0, 1) := by decide +kernel
theorem dX5_setCsr_147 : decode cX5_setCsr 147 = .ok (.iload_n 2, 1) := by decide +kernel
theorem dX5_setCsr_148 : decode cX5_setCsr 148 = .ok (.ldc 94, 2) := by decide +kernel
theorem dX5_setCsr_150 : decode cX5_setCsr 150 = .ok (.iand, 1) := by decide +kernel
theorem dX5_setCsr_151 : decode cX5_setCsr 151 = .ok (.putfield 52, 3) := by decide +kernel
theorem dX5_setCsr_154 : decode cX5_setCsr 154 = .ok (.goto 11, 3) := by decide +kernel
theorem dX5_setCsr_157 : decode cX5_setCsr 157 = .ok (.aload_n 0, 1) := by decide +kernel
theorem dX5_setCsr_158 : decode cX5_setCsr 158 = .ok (.iload_n 2, 1) := by decide +kernel
theorem dX5_setCsr_159 : decode cX5_setCsr 159 = .ok (.putfield 55, 3) := by decide +kernel
theorem dX5_setCsr_162 : decode cX5_setCsr 162 = .ok (.goto 3, 3) := by decide +kernel
theorem dX5_setCsr_165 : decode cX5_setCsr 165 = .ok (.return_, 1) := by decide +kernel
theorem dX5_trap_0 : decode cX5_trap 0 = .ok (.aload_n 0, 1) := by decide +kernel
theorem dX5_trap_1 : decode cX5_trap 1 = .ok (.aload_n 0, 1) := by decide +kernel
theorem dX5_trap_2 : decode cX5_trap 2 = .ok (.getfield 30, 3) := by decide +kernel
theorem dX5_trap_5 : decode cX5_trap 5 = .ok (.putfield 49, 3) := by decide +kernel
theorem dX5_trap_8 : decode cX5_trap 8 = .ok (.aload_n 0, 1) := by decide +kernel
theorem dX5_trap_9 : decode cX5_trap 9 = .ok (.iload_n 1, 1) := by decide +kernel
theorem dX5_trap_10 : decode cX5_trap 10 = .ok (.putfield 52, 3) := by decide +kernel
theorem dX5_trap_13 : decode cX5_trap 13 = .ok (.aload_n 0, 1) := by decide +kernel
theorem dX5_trap_14 : decode cX5_trap 14 = .ok (.iload_n 2, 1) := by decide +kernel
theorem dX5_trap_15 : decode cX5_trap 15 = .ok (.putfield 55, 3) := by decide +kernel
theorem dX5_trap_18 : decode cX5_trap 18 = .ok (.aload_n 0, 1) := by decide +kernel
theorem dX5_trap_19 : decode cX5_trap 19 = .ok (.aload_n 0, 1) := by decide +kernel
theorem dX5_trap_20 : decode cX5_trap 20 = .ok (.getfield 33, 3) := by decide +kernel
theorem dX5_trap_23 : decode cX5_trap 23 = .ok (.putfield 37, 3) := by decide +kernel
theorem dX5_trap_26 : decode cX5_trap 26 = .ok (.aload_n 0, 1) := by decide +kernel
theorem dX5_trap_27 : decode cX5_trap 27 = .ok (.iconst 0, 1) := by decide +kernel
theorem dX5_trap_28 : decode cX5_trap 28 = .ok (.putfield 33, 3) := by decide +kernel
theorem dX5_trap_31 : decode cX5_trap 31 = .ok (.aload_n 0, 1) := by decide +kernel
theorem dX5_trap_32 : decode cX5_trap 32 = .ok (.aload_n 0, 1) := by decide +kernel
theorem dX5_trap_33 : decode cX5_trap 33 = .ok (.getfield 43, 3) := by decide +kernel
theorem dX5_trap_36 : decode cX5_trap 36 = .ok (.bipush (-4), 2) := by decide +kernel
theorem dX5_trap_38 : decode cX5_trap 38 = .ok (.iand, 1) := by decide +kernel
theorem dX5_trap_39 : decode cX5_trap 39 = .ok (.putfield 30, 3) := by decide +kernel
theorem dX5_trap_42 : decode cX5_trap 42 = .ok (.iconst 1, 1) := by decide +kernel
theorem dX5_trap_43 : decode cX5_trap 43 = .ok (.ireturn, 1) := by decide +kernel
theorem dX5_step_0 : decode cX5_step 0 = .ok (.aload_n 0, 1) := by decide +kernel
theorem dX5_step_1 : decode cX5_step 1 = .ok (.aload_n 0, 1) := by decide +kernel
theorem dX5_step_2 : decode cX5_step 2 = .ok (.invokevirtual 95, 3) := by decide +kernel
theorem dX5_step_5 : decode cX5_step 5 = .ok (.putfield 76, 3) := by decide +kernel
theorem dX5_step_8 : decode cX5_step 8 = .ok (.aload_n 0, 1) := by decide +kernel
theorem dX5_step_9 : decode cX5_step 9 = .ok (.aload_n 0, 1) := by decide +kernel
theorem dX5_step_10 : decode cX5_step 10 = .ok (.getfield 76, 3) := by decide +kernel
theorem dX5_step_13 : decode cX5_step 13 = .ok (.ifCond .ne 12, 3) := by decide +kernel
theorem dX5_step_16 : decode cX5_step 16 = .ok (.aload_n 0, 1) := by decide +kernel
theorem dX5_step_17 : decode cX5_step 17 = .ok (.getfield 70, 3) := by decide +kernel
theorem dX5_step_20 : decode cX5_step 20 = .ok (.lconst 1, 1) := by decide +kernel
theorem dX5_step_21 : decode cX5_step 21 = .ok (.ladd, 1) := by decide +kernel
theorem dX5_step_22 : decode cX5_step 22 = .ok (.goto 7, 3) := by decide +kernel
theorem dX5_step_25 : decode cX5_step 25 = .ok (.aload_n 0, 1) := by decide +kernel
theorem dX5_step_26 : decode cX5_step 26 = .ok (.getfield 70, 3) := by decide +kernel
theorem dX5_step_29 : decode cX5_step 29 = .ok (.putfield 70, 3) := by decide +kernel
theorem dX5_step_32 : decode cX5_step 32 = .ok (.aload_n 0, 1) := by decide +kernel
theorem dX5_step_33 : decode cX5_step 33 = .ok (.getfield 76, 3) := by decide +kernel
theorem dX5_step_36 : decode cX5_step 36 = .ok (.ireturn, 1) := by decide +kernel
theorem dX5_once_0 : decode cX5_once 0 = .ok (.aload_n 0, 1) := by decide +kernel
theorem dX5_once_1 : decode cX5_once 1 = .ok (.sipush 836, 3) := by decide +kernel
theorem dX5_once_4 : decode cX5_once 4 = .ok (.invokevirtual 99, 3) := by decide +kernel
theorem dX5_once_7 : decode cX5_once 7 = .ok (.aload_n 0, 1) := by decide +kernel
theorem dX5_once_8 : decode cX5_once 8 = .ok (.getfield 40, 3) := by decide +kernel
theorem dX5_once_11 : decode cX5_once 11 = .ok (.iand, 1) := by decide +kernel
theorem dX5_once_12 : decode cX5_once 12 = .ok (.istore_n 1, 1) := by decide +kernel
theorem dX5_once_13 : decode cX5_once 13 = .ok (.iload_n 1, 1) := by decide +kernel
theorem dX5_once_14 : decode cX5_once 14 = .ok (.sipush 128, 3) := by decide +kernel
theorem dX5_once_17 : decode cX5_once 17 = .ok (.iand, 1) := by decide +kernel
theorem dX5_once_18 : decode cX5_once 18 = .ok (.ifCond .eq 62, 3) := by decide +kernel
theorem dX5_once_21 : decode cX5_once 21 = .ok (.aload_n 0, 1) := by decide +kernel
theorem dX5_once_22 : decode cX5_once 22 = .ok (.getfield 33, 3) := by decide +kernel
theorem dX5_once_25 : decode cX5_once 25 = .ok (.ifCond .eq 55, 3) := by decide +kernel
theorem dX5_once_28 : decode cX5_once 28 = .ok (.aload_n 0, 1) := by decide +kernel
theorem dX5_once_29 : decode cX5_once 29 = .ok (.ldc 103, 2) := by decide +kernel
theorem dX5_once_31 : decode cX5_once 31 = .ok (.iconst 0, 1) := by decide +kernel
theorem dX5_once_32 : decode cX5_once 32 = .ok (.invokevirtual 104, 3) := by decide +kernel
theorem dX5_once_35 : decode cX5_once 35 = .ok (.istore_n 2, 1) := by decide +kernel
theorem dX5_once_36 : decode cX5_once 36 = .ok (.aload_n 0, 1) := by decide +kernel
theorem dX5_once_37 : decode cX5_once 37 = .ok (.aload_n 0, 1) := by decide +kernel
theorem dX5_once_38 : decode cX5_once 38 = .ok (.getfield 43, 3) := by decide +kernel
theorem dX5_once_41 : decode cX5_once 41 = .ok (.iconst 1, 1) := by decide +kernel
theorem dX5_once_42 : decode cX5_once 42 = .ok (.iand, 1) := by decide +kernel
theorem dX5_once_43 : decode cX5_once 43 = .ok (.iconst 1, 1) := by decide +kernel
theorem dX5_once_44 : decode cX5_once 44 = .ok (.if_icmp .ne 13, 3) := by decide +kernel
theorem dX5_once_47 : decode cX5_once 47 = .ok (.aload_n 0, 1) := by decide +kernel
theorem dX5_once_48 : decode cX5_once 48 = .ok (.getfield 30, 3) := by decide +kernel
theorem dX5_once_51 : decode cX5_once 51 = .ok (.bipush 28, 2) := by decide +kernel
theorem dX5_once_53 : decode cX5_once 53 = .ok (.iadd, 1) := by decide +kernel
theorem dX5_once_54 : decode cX5_once 54 = .ok (.goto 7, 3) := by decide +kernel
theorem dX5_once_57 : decode cX5_once 57 = .ok (.aload_n 0, 1) := by decide +kernel
theorem dX5_once_58 : decode cX5_once 58 = .ok (.getfield 30, 3) := by decide +kernel
theorem dX5_once_61 : decode cX5_once 61 = .ok (.putfield 30, 3) := by decide +kernel
theorem dX5_once_64 : decode cX5_once 64 = .ok (.aload_n 0, 1) := by decide +kernel
theorem dX5_once_65 : decode cX5_once 65 = .ok (.iconst 0, 1) := by decide +kernel
theorem dX5_once_66 : decode cX5_once 66 = .ok (.putfield 73, 3) := by decide +kernel
theorem dX5_once_69 : decode cX5_once 69 = .ok (.iload_n 2, 1) := by decide +kernel
theorem dX5_once_70 : decode cX5_once 70 = .ok (.iconst 1, 1) := by decide +kernel
theorem dX5_once_71 : decode cX5_once 71 = .ok (.if_icmp .ne 7, 3) := by decide +kernel
theorem dX5_once_74 : decode cX5_once 74 = .ok (.iconst 2, 1) := by decide +kernel
theorem dX5_once_75 : decode cX5_once 75 = .ok (.goto 4, 3) := by decide +kernel
theorem dX5_once_78 : decode cX5_once 78 = .ok (.iload_n 2, 1) := by decide +kernel
theorem dX5_once_79 : decode cX5_once 79 = .ok (.ireturn, 1) := by decide +kernel
theorem dX5_once_80 : decode cX5_once 80 = .ok (.aload_n 0, 1) := by decide +kernel
theorem dX5_once_81 : decode cX5_once 81 = .ok (.getfield 73, 3) := by decide +kernel
theorem dX5_once_84 : decode cX5_once 84 = .ok (.ifCond .eq 9, 3) := by decide +kernel
theorem dX5_once_87 : decode cX5_once 87 = .ok (.iload_n 1, 1) := by decide +kernel
theorem dX5_once_88 : decode cX5_once 88 = .ok (.ifCond .ne 5, 3) := by decide +kernel
theorem dX5_once_91 : decode cX5_once 91 = .ok (.iconst 3, 1) := by decide +kernel
theorem dX5_once_92 : decode cX5_once 92 = .ok (.ireturn, 1) := by decide +kernel
theorem dX5_once_93 : decode cX5_once 93 = .ok (.aload_n 0, 1) := by decide +kernel
theorem dX5_once_94 : decode cX5_once 94 = .ok (.getfield 73, 3) := by decide +kernel
theorem dX5_once_97 : decode cX5_once 97 = .ok (.istore_n 2, 1) := by decide +kernel
theorem dX5_once_98 : decode cX5_once 98 = .ok (.aload_n 0, 1) := by decide +kernel
theorem dX5_once_99 : decode cX5_once 99 = .ok (.iconst 0, 1) := by decide +kernel
theorem dX5_once_100 : decode cX5_once 100 = .ok (.putfield 73, 3) := by decide +kernel
theorem dX5_once_103 : decode cX5_once 103 = .ok (.aload_n 0, 1) := by decide +kernel
theorem dX5_once_104 : decode cX5_once 104 = .ok (.invokevirtual 108, 3) := by decide +kernel
theorem dX5_once_107 : decode cX5_once 107 = .ok (.istore_n 3, 1) := by decide +kernel
theorem dX5_once_108 : decode cX5_once 108 = .ok (.aload_n 0, 1) := by decide +kernel
theorem dX5_once_109 : decode cX5_once 109 = .ok (.iload_n 3, 1) := by decide +kernel
theorem dX5_once_110 : decode cX5_once 110 = .ok (.iconst 4, 1) := by decide +kernel
theorem dX5_once_111 : decode cX5_once 111 = .ok (.if_icmp .ne 7, 3) := by decide +kernel
theorem dX5_once_114 : decode cX5_once 114 = .ok (.iload_n 2, 1) := by decide +kernel
theorem dX5_once_115 : decode cX5_once 115 = .ok (.goto 7, 3) := by decide +kernel
theorem dX5_once_118 : decode cX5_once 118 = .ok (.aload_n 0, 1) := by decide +kernel
theorem dX5_once_119 : decode cX5_once 119 = .ok (.getfield 73, 3) := by decide +kernel
theorem dX5_once_122 : decode cX5_once 122 = .ok (.putfield 73, 3) := by decide +kernel
theorem dX5_once_125 : decode cX5_once 125 = .ok (.iload_n 3, 1) := by decide +kernel
theorem dX5_once_126 : decode cX5_once 126 = .ok (.ireturn, 1) := by decide +kernel
theorem dX5_run_0 : decode cX5_run 0 = .ok (.iload_n 1, 1) := by decide +kernel
theorem dX5_run_1 : decode cX5_run 1 = .ok (.ifCond .lt 9, 3) := by decide +kernel
theorem dX5_run_4 : decode cX5_run 4 = .ok (.iload_n 1, 1) := by decide +kernel
theorem dX5_run_5 : decode cX5_run 5 = .ok (.ldc 111, 2) := by decide +kernel
theorem dX5_run_7 : decode cX5_run 7 = .ok (.if_icmp .le 6, 3) := by decide +kernel
theorem dX5_run_10 : decode cX5_run 10 = .ok (.bipush (-2), 2) := by decide +kernel
theorem dX5_run_12 : decode cX5_run 12 = .ok (.ireturn, 1) := by decide +kernel
theorem dX5_run_13 : decode cX5_run 13 = .ok (.iconst 0, 1) := by decide +kernel
theorem dX5_run_14 : decode cX5_run 14 = .ok (.istore_n 2, 1) := by decide +kernel
theorem dX5_run_15 : decode cX5_run 15 = .ok (.iconst 0, 1) := by decide +kernel
theorem dX5_run_16 : decode cX5_run 16 = .ok (.istore_n 3, 1) := by decide +kernel
theorem dX5_run_17 : decode cX5_run 17 = .ok (.iload_n 2, 1) := by decide +kernel
theorem dX5_run_18 : decode cX5_run 18 = .ok (.iload_n 1, 1) := by decide +kernel
theorem dX5_run_19 : decode cX5_run 19 = .ok (.if_icmp .ge 22, 3) := by decide +kernel
theorem dX5_run_22 : decode cX5_run 22 = .ok (.iload_n 3, 1) := by decide +kernel
theorem dX5_run_23 : decode cX5_run 23 = .ok (.ifCond .ne 18, 3) := by decide +kernel
theorem dX5_run_26 : decode cX5_run 26 = .ok (.aload_n 0, 1) := by decide +kernel
theorem dX5_run_27 : decode cX5_run 27 = .ok (.invokevirtual 112, 3) := by decide +kernel
theorem dX5_run_30 : decode cX5_run 30 = .ok (.istore_n 3, 1) := by decide +kernel
theorem dX5_run_31 : decode cX5_run 31 = .ok (.aload_n 0, 1) := by decide +kernel
theorem dX5_run_32 : decode cX5_run 32 = .ok (.invokevirtual 115, 3) := by decide +kernel
theorem dX5_run_35 : decode cX5_run 35 = .ok (.iinc 2 1, 3) := by decide +kernel
theorem dX5_run_38 : decode cX5_run 38 = .ok (.goto (-21), 3) := by decide +kernel
theorem dX5_run_41 : decode cX5_run 41 = .ok (.iload_n 2, 1) := by decide +kernel
theorem dX5_run_42 : decode cX5_run 42 = .ok (.ireturn, 1) := by decide +kernel
theorem dX5_tick_0 : decode cX5_tick 0 = .ok (.aload_n 0, 1) := by decide +kernel
theorem dX5_tick_1 : decode cX5_tick 1 = .ok (.dup, 1) := by decide +kernel
theorem dX5_tick_2 : decode cX5_tick 2 = .ok (.getfield 58, 3) := by decide +kernel
theorem dX5_tick_5 : decode cX5_tick 5 = .ok (.lconst 1, 1) := by decide +kernel
theorem dX5_tick_6 : decode cX5_tick 6 = .ok (.ladd, 1) := by decide +kernel
theorem dX5_tick_7 : decode cX5_tick 7 = .ok (.putfield 58, 3) := by decide +kernel
theorem dX5_tick_10 : decode cX5_tick 10 = .ok (.return_, 1) := by decide +kernel
theorem dX5_immediate_0 : decode cX5_immediate 0 = .ok (.aload_n 0, 1) := by decide +kernel
theorem dX5_immediate_1 : decode cX5_immediate 1 = .ok (.getfield 118, 3) := by decide +kernel
theorem dX5_immediate_4 : decode cX5_immediate 4 = .ok (.bipush 20, 2) := by decide +kernel
theorem dX5_immediate_6 : decode cX5_immediate 6 = .ok (.ishr, 1) := by decide +kernel
theorem dX5_immediate_7 : decode cX5_immediate 7 = .ok (.ireturn, 1) := by decide +kernel
theorem dX5_instruction_0 : decode cX5_instruction 0 = .ok (.aload_n 0, 1) := by decide +kernel
theorem dX5_instruction_1 : decode cX5_instruction 1 = .ok (.aload_n 0, 1) := by decide +kernel
theorem dX5_instruction_2 : decode cX5_instruction 2 = .ok (.getfield 30, 3) := by decide +kernel
theorem dX5_instruction_5 : decode cX5_instruction 5 = .ok (.iconst 4, 1) := by decide +kernel
theorem dX5_instruction_6 : decode cX5_instruction 6 = .ok (.invokevirtual 79, 3) := by decide +kernel
theorem dX5_instruction_9 : decode cX5_instruction 9 = .ok (.ifCond .ne 13, 3) := by decide +kernel
theorem dX5_instruction_12 : decode cX5_instruction 12 = .ok (.aload_n 0, 1) := by decide +kernel
theorem dX5_instruction_13 : decode cX5_instruction 13 = .ok (.iconst 1, 1) := by decide +kernel
theorem dX5_instruction_14 : decode cX5_instruction 14 = .ok (.aload_n 0, 1) := by decide +kernel
theorem dX5_instruction_15 : decode cX5_instruction 15 = .ok (.getfield 30, 3) := by decide +kernel
theorem dX5_instruction_18 : decode cX5_instruction 18 = .ok (.invokevirtual 104, 3) := by decide +kernel
theorem dX5_instruction_21 : decode cX5_instruction 21 = .ok (.ireturn, 1) := by decide +kernel
theorem dX5_instruction_22 : decode cX5_instruction 22 = .ok (.aload_n 0, 1) := by decide +kernel
theorem dX5_instruction_23 : decode cX5_instruction 23 = .ok (.aload_n 0, 1) := by decide +kernel
theorem dX5_instruction_24 : decode cX5_instruction 24 = .ok (.aload_n 0, 1) := by decide +kernel
theorem dX5_instruction_25 : decode cX5_instruction 25 = .ok (.getfield 30, 3) := by decide +kernel
theorem dX5_instruction_28 : decode cX5_instruction 28 = .ok (.iconst 4, 1) := by decide +kernel
theorem dX5_instruction_29 : decode cX5_instruction 29 = .ok (.invokevirtual 121, 3) := by decide +kernel
theorem dX5_instruction_32 : decode cX5_instruction 32 = .ok (.putfield 118, 3) := by decide +kernel
theorem dX5_instruction_35 : decode cX5_instruction 35 = .ok (.aload_n 0, 1) := by decide +kernel
theorem dX5_instruction_36 : decode cX5_instruction 36 = .ok (.aload_n 0, 1) := by decide +kernel
theorem dX5_instruction_37 : decode cX5_instruction 37 = .ok (.getfield 118, 3) := by decide +kernel
theorem dX5_instruction_40 : decode cX5_instruction 40 = .ok (.bipush 7, 2) := by decide +kernel
theorem dX5_instruction_42 : decode cX5_instruction 42 = .ok (.ishr, 1) := by decide +kernel
theorem dX5_instruction_43 : decode cX5_instruction 43 = .ok (.bipush 31, 2) := by decide +kernel
theorem dX5_instruction_45 : decode cX5_instruction 45 = .ok (.iand, 1) := by decide +kernel
theorem dX5_instruction_46 : decode cX5_instruction 46 = .ok (.putfield 124, 3) := by decide +kernel
theorem dX5_instruction_49 : decode cX5_instruction 49 = .ok (.aload_n 0, 1) := by decide +kernel
theorem dX5_instruction_50 : decode cX5_instruction 50 = .ok (.aload_n 0, 1) := by decide +kernel
theorem dX5_instruction_51 : decode cX5_instruction 51 = .ok (.getfield 118, 3) := by decide +kernel
theorem dX5_instruction_54 : decode cX5_instruction 54 = .ok (.bipush 12, 2) := by decide +kernel
theorem dX5_instruction_56 : decode cX5_instruction 56 = .ok (.ishr, 1) := by decide +kernel
theorem dX5_instruction_57 : decode cX5_instruction 57 = .ok (.bipush 7, 2) := by decide +kernel
theorem dX5_instruction_59 : decode cX5_instruction 59 = .ok (.iand, 1) := by decide +kernel
theorem dX5_instruction_60 : decode cX5_instruction 60 = .ok (.putfield 127, 3) := by decide +kernel
theorem dX5_instruction_63 : decode cX5_instruction 63 = .ok (.aload_n 0, 1) := by decide +kernel
theorem dX5_instruction_64 : decode cX5_instruction 64 = .ok (.aload_n 0, 1) := by decide +kernel
theorem dX5_instruction_65 : decode cX5_instruction 65 = .ok (.getfield 118, 3) := by decide +kernel
theorem dX5_instruction_68 : decode cX5_instruction 68 = .ok (.bipush 15, 2) := by decide +kernel
theorem dX5_instruction_70 : decode cX5_instruction 70 = .ok (.ishr, 1) := by decide +kernel
theorem dX5_instruction_71 : decode cX5_instruction 71 = .ok (.bipush 31, 2) := by decide +kernel
theorem dX5_instruction_73 : decode cX5_instruction 73 = .ok (.iand, 1) := by decide +kernel
theorem dX5_instruction_74 : decode cX5_instruction 74 = .ok (.putfield 130, 3) := by decide +kernel
theorem dX5_instruction_77 : decode cX5_instruction 77 = .ok (.aload_n 0, 1) := by decide +kernel
theorem dX5_instruction_78 : decode cX5_instruction 78 = .ok (.aload_n 0, 1) := by decide +kernel
theorem dX5_instruction_79 : decode cX5_instruction 79 = .ok (.getfield 118, 3) := by decide +kernel
theorem dX5_instruction_82 : decode cX5_instruction 82 = .ok (.bipush 20, 2) := by decide +kernel
theorem dX5_instruction_84 : decode cX5_instruction 84 = .ok (.ishr, 1) := by decide +kernel
theorem dX5_instruction_85 : decode cX5_instruction 85 = .ok (.bipush 31, 2) := by decide +kernel
theorem dX5_instruction_87 : decode cX5_instruction 87 = .ok (.iand, 1) := by decide +kernel
theorem dX5_instruction_88 : decode cX5_instruction 88 = .ok (.putfield 133, 3) := by decide +kernel
theorem dX5_instruction_91 : decode cX5_instruction 91 = .ok (.aload_n 0, 1) := by decide +kernel
theorem dX5_instruction_92 : decode cX5_instruction 92 = .ok (.aload_n 0, 1) := by decide +kernel
theorem dX5_instruction_93 : decode cX5_instruction 93 = .ok (.getfield 118, 3) := by decide +kernel
theorem dX5_instruction_96 : decode cX5_instruction 96 = .ok (.bipush 25, 2) := by decide +kernel
theorem dX5_instruction_98 : decode cX5_instruction 98 = .ok (.ishr, 1) := by decide +kernel
theorem dX5_instruction_99 : decode cX5_instruction 99 = .ok (.bipush 127, 2) := by decide +kernel
theorem dX5_instruction_101 : decode cX5_instruction 101 = .ok (.iand, 1) := by decide +kernel
theorem dX5_instruction_102 : decode cX5_instruction 102 = .ok (.putfield 136, 3) := by decide +kernel
theorem dX5_instruction_105 : decode cX5_instruction 105 = .ok (.aload_n 0, 1) := by decide +kernel
theorem dX5_instruction_106 : decode cX5_instruction 106 = .ok (.aload_n 0, 1) := by decide +kernel
theorem dX5_instruction_107 : decode cX5_instruction 107 = .ok (.getfield 30, 3) := by decide +kernel
theorem dX5_instruction_110 : decode cX5_instruction 110 = .ok (.iconst 4, 1) := by decide +kernel
theorem dX5_instruction_111 : decode cX5_instruction 111 = .ok (.iadd, 1) := by decide +kernel
theorem dX5_instruction_112 : decode cX5_instruction 112 = .ok (.putfield 139, 3) := by decide +kernel
theorem dX5_instruction_115 : decode cX5_instruction 115 = .ok (.aload_n 0, 1) := by decide +kernel
theorem dX5_instruction_116 : decode cX5_instruction 116 = .ok (.invokevirtual 142, 3) := by decide +kernel
theorem dX5_instruction_119 : decode cX5_instruction 119 = .ok (.istore_n 1, 1) := by decide +kernel
theorem dX5_instruction_120 : decode cX5_instruction 120 = .ok (.iload_n 1, 1) := by decide +kernel
theorem dX5_instruction_121 : decode cX5_instruction 121 = .ok (.iconst (-1), 1) := by decide +kernel
theorem dX5_instruction_122 : decode cX5_instruction 122 = .ok (.if_icmp .eq 5, 3) := by decide +kernel
theorem dX5_instruction_125 : decode cX5_instruction 125 = .ok (.iload_n 1, 1) := by decide +kernel
theorem dX5_instruction_126 : decode cX5_instruction 126 = .ok (.ireturn, 1) := by decide +kernel
theorem dX5_instruction_127 : decode cX5_instruction 127 = .ok (.aload_n 0, 1) := by decide +kernel
theorem dX5_instruction_128 : decode cX5_instruction 128 = .ok (.aload_n 0, 1) := by decide +kernel
theorem dX5_instruction_129 : decode cX5_instruction 129 = .ok (.getfield 139, 3) := by decide +kernel
theorem dX5_instruction_132 : decode cX5_instruction 132 = .ok (.putfield 30, 3) := by decide +kernel
theorem dX5_instruction_135 : decode cX5_instruction 135 = .ok (.iconst 0, 1) := by decide +kernel
theorem dX5_instruction_136 : decode cX5_instruction 136 = .ok (.ireturn, 1) := by decide +kernel
theorem dX5_illegal_0 : decode cX5_illegal 0 = .ok (.aload_n 0, 1) := by decide +kernel
theorem dX5_illegal_1 : decode cX5_illegal 1 = .ok (.iconst 2, 1) := by decide +kernel
theorem dX5_illegal_2 : decode cX5_illegal 2 = .ok (.aload_n 0, 1) := by decide +kernel
theorem dX5_illegal_3 : decode cX5_illegal 3 = .ok (.getfield 118, 3) := by decide +kernel
theorem dX5_illegal_6 : decode cX5_illegal 6 = .ok (.invokevirtual 104, 3) := by decide +kernel
theorem dX5_illegal_9 : decode cX5_illegal 9 = .ok (.ireturn, 1) := by decide +kernel
theorem dX5_become_0 : decode cX5_become 0 = .ok (.aload_n 0, 1) := by decide +kernel
theorem dX5_become_1 : decode cX5_become 1 = .ok (.getfield 14, 3) := by decide +kernel
theorem dX5_become_4 : decode cX5_become 4 = .ok (.aload_n 0, 1) := by decide +kernel
theorem dX5_become_5 : decode cX5_become 5 = .ok (.getfield 124, 3) := by decide +kernel
theorem dX5_become_8 : decode cX5_become 8 = .ok (.aload_n 0, 1) := by decide +kernel
theorem dX5_become_9 : decode cX5_become 9 = .ok (.getfield 124, 3) := by decide +kernel
theorem dX5_become_12 : decode cX5_become 12 = .ok (.ifCond .ne 7, 3) := by decide +kernel
theorem dX5_become_15 : decode cX5_become 15 = .ok (.iconst 0, 1) := by decide +kernel
theorem dX5_become_16 : decode cX5_become 16 = .ok (.goto 4, 3) := by decide +kernel
theorem dX5_become_19 : decode cX5_become 19 = .ok (.iload_n 1, 1) := by decide +kernel
theorem dX5_become_20 : decode cX5_become 20 = .ok (.iastore, 1) := by decide +kernel
theorem dX5_become_21 : decode cX5_become 21 = .ok (.iconst (-1), 1) := by decide +kernel
theorem dX5_become_22 : decode cX5_become 22 = .ok (.ireturn, 1) := by decide +kernel
theorem dX5_goTo_0 : decode cX5_goTo 0 = .ok (.iload_n 1, 1) := by decide +kernel
theorem dX5_goTo_1 : decode cX5_goTo 1 = .ok (.iconst 3, 1) := by decide +kernel
theorem dX5_goTo_2 : decode cX5_goTo 2 = .ok (.iand, 1) := by decide +kernel
theorem dX5_goTo_3 : decode cX5_goTo 3 = .ok (.ifCond .eq 10, 3) := by decide +kernel
theorem dX5_goTo_6 : decode cX5_goTo 6 = .ok (.aload_n 0, 1) := by decide +kernel
theorem dX5_goTo_7 : decode cX5_goTo 7 = .ok (.iconst 0, 1) := by decide +kernel
theorem dX5_goTo_8 : decode cX5_goTo 8 = .ok (.iload_n 1, 1) := by decide +kernel
theorem dX5_goTo_9 : decode cX5_goTo 9 = .ok (.invokevirtual 104, 3) := by decide +kernel
theorem dX5_goTo_12 : decode cX5_goTo 12 = .ok (.ireturn, 1) := by decide +kernel
theorem dX5_goTo_13 : decode cX5_goTo 13 = .ok (.iload_n 2, 1) := by decide +kernel
theorem dX5_goTo_14 : decode cX5_goTo 14 = .ok (.ifCond .eq 16, 3) := by decide +kernel
theorem dX5_goTo_17 : decode cX5_goTo 17 = .ok (.aload_n 0, 1) := by decide +kernel
theorem dX5_goTo_18 : decode cX5_goTo 18 = .ok (.aload_n 0, 1) := by decide +kernel
theorem dX5_goTo_19 : decode cX5_goTo 19 = .ok (.getfield 30, 3) := by decide +kernel
theorem dX5_goTo_22 : decode cX5_goTo 22 = .ok (.iconst 4, 1) := by decide +kernel
theorem dX5_goTo_23 : decode cX5_goTo 23 = .ok (.iadd, 1) := by decide +kernel
theorem dX5_goTo_24 : decode cX5_goTo 24 = .ok (.invokevirtual 145, 3) := by decide +kernel
theorem dX5_goTo_27 : decode cX5_goTo 27 = .ok (.goto 4, 3) := by decide +kernel
theorem dX5_goTo_30 : decode cX5_goTo 30 = .ok (.iconst (-1), 1) := by decide +kernel
theorem dX5_goTo_31 : decode cX5_goTo 31 = .ok (.istore_n 3, 1) := by decide +kernel
theorem dX5_goTo_32 : decode cX5_goTo 32 = .ok (.aload_n 0, 1) := by decide +kernel
theorem dX5_goTo_33 : decode cX5_goTo 33 = .ok (.iload_n 1, 1) := by decide +kernel
theorem dX5_goTo_34 : decode cX5_goTo 34 = .ok (.putfield 139, 3) := by decide +kernel
theorem dX5_goTo_37 : decode cX5_goTo 37 = .ok (.iload_n 3, 1) := by decide +kernel
theorem dX5_goTo_38 : decode cX5_goTo 38 = .ok (.ireturn, 1) := by decide +kernel
theorem dX5_work_0 : decode cX5_work 0 = .ok (.aload_n 0, 1) := by decide +kernel
theorem dX5_work_1 : decode cX5_work 1 = .ok (.getfield 118, 3) := by decide +kernel
theorem dX5_work_4 : decode cX5_work 4 = .ok (.bipush 127, 2) := by decide +kernel
theorem dX5_work_6 : decode cX5_work 6 = .ok (.iand, 1) := by decide +kernel
theorem dX5_work_7 : decode cX5_work 7 = .ok (.lookupswitch 287 #[(3, 228), (15, 252), (19, 238), (23, 110), (35, 233), (51, 247), (55, 97), (99, 223), (103, 186), (111, 128), (115, 268)], 97) := by decide +kernel
theorem dX5_work_104 : decode cX5_work 104 = .ok (.aload_n 0, 1) := by decide +kernel
theorem dX5_work_105 : decode cX5_work 105 = .ok (.aload_n 0, 1) := by decide +kernel
theorem dX5_work_106 : decode cX5_work 106 = .ok (.getfield 118, 3) := by decide +kernel
theorem dX5_work_109 : decode cX5_work 109 = .ok (.sipush (-4096), 3) := by decide +kernel
theorem dX5_work_112 : decode cX5_work 112 = .ok (.iand, 1) := by decide +kernel
theorem dX5_work_113 : decode cX5_work 113 = .ok (.invokevirtual 145, 3) := by decide +kernel
theorem dX5_work_116 : decode cX5_work 116 = .ok (.ireturn, 1) := by decide +kernel
theorem dX5_work_117 : decode cX5_work 117 = .ok (.aload_n 0, 1) := by decide +kernel
theorem dX5_work_118 : decode cX5_work 118 = .ok (.aload_n 0, 1) := by decide +kernel
theorem dX5_work_119 : decode cX5_work 119 = .ok (.getfield 30, 3) := by decide +kernel
theorem dX5_work_122 : decode cX5_work 122 = .ok (.aload_n 0, 1) := by decide +kernel
theorem dX5_work_123 : decode cX5_work 123 = .ok (.getfield 118, 3) := by decide +kernel
theorem dX5_work_126 : decode cX5_work 126 = .ok (.sipush (-4096), 3) := by decide +kernel
theorem dX5_work_129 : decode cX5_work 129 = .ok (.iand, 1) := by decide +kernel
theorem dX5_work_130 : decode cX5_work 130 = .ok (.iadd, 1) := by decide +kernel
theorem dX5_work_131 : decode cX5_work 131 = .ok (.invokevirtual 145, 3) := by decide +kernel
theorem dX5_work_134 : decode cX5_work 134 = .ok (.ireturn, 1) := by decide +kernel
theorem dX5_work_135 : decode cX5_work 135 = .ok (.aload_n 0, 1) := by decide +kernel
theorem dX5_work_136 : decode cX5_work 136 = .ok (.getfield 118, 3) := by decide +kernel
theorem dX5_work_139 : decode cX5_work 139 = .ok (.bipush 31, 2) := by decide +kernel
theorem dX5_work_141 : decode cX5_work 141 = .ok (.ishr, 1) := by decide +kernel
theorem dX5_work_142 : decode cX5_work 142 = .ok (.bipush 20, 2) := by decide +kernel
theorem dX5_work_144 : decode cX5_work 144 = .ok (.ishl, 1) := by decide +kernel
theorem dX5_work_145 : decode cX5_work 145 = .ok (.aload_n 0, 1) := by decide +kernel
theorem dX5_work_146 : decode cX5_work 146 = .ok (.getfield 118, 3) := by decide +kernel
theorem dX5_work_149 : decode cX5_work 149 = .ok (.ldc 148, 2) := by decide +kernel
theorem dX5_work_151 : decode cX5_work 151 = .ok (.iand, 1) := by decide +kernel
theorem dX5_work_152 : decode cX5_work 152 = .ok (.ior, 1) := by decide +kernel
theorem dX5_work_153 : decode cX5_work 153 = .ok (.aload_n 0, 1) := by decide +kernel
theorem dX5_work_154 : decode cX5_work 154 = .ok (.getfield 118, 3) := by decide +kernel
theorem dX5_work_157 : decode cX5_work 157 = .ok (.bipush 20, 2) := by decide +kernel
theorem dX5_work_159 : decode cX5_work 159 = .ok (.ishr, 1) := by decide +kernel
theorem dX5_work_160 : decode cX5_work 160 = .ok (.iconst 1, 1) := by decide +kernel
theorem dX5_work_161 : decode cX5_work 161 = .ok (.iand, 1) := by decide +kernel
theorem dX5_work_162 : decode cX5_work 162 = .ok (.bipush 11, 2) := by decide +kernel
theorem dX5_work_164 : decode cX5_work 164 = .ok (.ishl, 1) := by decide +kernel
theorem dX5_work_165 : decode cX5_work 165 = .ok (.ior, 1) := by decide +kernel
theorem dX5_work_166 : decode cX5_work 166 = .ok (.aload_n 0, 1) := by decide +kernel
theorem dX5_work_167 : decode cX5_work 167 = .ok (.getfield 118, 3) := by decide +kernel
theorem dX5_work_170 : decode cX5_work 170 = .ok (.bipush 21, 2) := by decide +kernel
theorem dX5_work_172 : decode cX5_work 172 = .ok (.ishr, 1) := by decide +kernel
theorem dX5_work_173 : decode cX5_work 173 = .ok (.sipush 1023, 3) := by decide +kernel
theorem dX5_work_176 : decode cX5_work 176 = .ok (.iand, 1) := by decide +kernel
theorem dX5_work_177 : decode cX5_work 177 = .ok (.iconst 1, 1) := by decide +kernel
theorem dX5_work_178 : decode cX5_work 178 = .ok (.ishl, 1) := by decide +kernel
theorem dX5_work_179 : decode cX5_work 179 = .ok (.ior, 1) := by decide +kernel
theorem dX5_work_180 : decode cX5_work 180 = .ok (.istore_n 1, 1) := by decide +kernel
theorem dX5_work_181 : decode cX5_work 181 = .ok (.aload_n 0, 1) := by decide +kernel
theorem dX5_work_182 : decode cX5_work 182 = .ok (.aload_n 0, 1) := by decide +kernel
theorem dX5_work_183 : decode cX5_work 183 = .ok (.getfield 30, 3) := by decide +kernel
theorem dX5_work_186 : decode cX5_work 186 = .ok (.iload_n 1, 1) := by decide +kernel
theorem dX5_work_187 : decode cX5_work 187 = .ok (.iadd, 1) := by decide +kernel
theorem dX5_work_188 : decode cX5_work 188 = .ok (.iconst 1, 1) := by decide +kernel
theorem dX5_work_189 : decode cX5_work 189 = .ok (.invokevirtual 149, 3) := by decide +kernel
theorem dX5_work_192 : decode cX5_work 192 = .ok (.ireturn, 1) := by decide +kernel
theorem dX5_work_193 : decode cX5_work 193 = .ok (.aload_n 0, 1) := by decide +kernel
theorem dX5_work_194 : decode cX5_work 194 = .ok (.getfield 127, 3) := by decide +kernel
theorem dX5_work_197 : decode cX5_work 197 = .ok (.ifCond .ne 28, 3) := by decide +kernel
theorem dX5_work_200 : decode cX5_work 200 = .ok (.aload_n 0, 1) := by decide +kernel
theorem dX5_work_201 : decode cX5_work 201 = .ok (.aload_n 0, 1) := by decide +kernel
theorem dX5_work_202 : decode cX5_work 202 = .ok (.getfield 14, 3) := by decide +kernel
theorem dX5_work_205 : decode cX5_work 205 = .ok (.aload_n 0, 1) := by decide +kernel
theorem dX5_work_206 : decode cX5_work 206 = .ok (.getfield 130, 3) := by decide +kernel
theorem dX5_work_209 : decode cX5_work 209 = .ok (.iaload, 1) := by decide +kernel
theorem dX5_work_210 : decode cX5_work 210 = .ok (.aload_n 0, 1) := by decide +kernel
theorem dX5_work_211 : decode cX5_work 211 = .ok (.invokevirtual 153, 3) := by decide +kernel
theorem dX5_work_214 : decode cX5_work 214 = .ok (.iadd, 1) := by decide +kernel
theorem dX5_work_215 : decode cX5_work 215 = .ok (.bipush (-2), 2) := by decide +kernel
theorem dX5_work_217 : decode cX5_work 217 = .ok (.iand, 1) := by decide +kernel
theorem dX5_work_218 : decode cX5_work 218 = .ok (.iconst 1, 1) := by decide +kernel
theorem dX5_work_219 : decode cX5_work 219 = .ok (.invokevirtual 149, 3) := by decide +kernel
theorem dX5_work_222 : decode cX5_work 222 = .ok (.goto 7, 3) := by decide +kernel
theorem dX5_work_225 : decode cX5_work 225 = .ok (.aload_n 0, 1) := by decide +kernel
theorem dX5_work_226 : decode cX5_work 226 = .ok (.invokevirtual 156, 3) := by decide +kernel
theorem dX5_work_229 : decode cX5_work 229 = .ok (.ireturn, 1) := by decide +kernel
theorem dX5_work_230 : decode cX5_work 230 = .ok (.aload_n 0, 1) := by decide +kernel
theorem dX5_work_231 : decode cX5_work 231 = .ok (.invokevirtual 159, 3) := by decide +kernel
theorem dX5_work_234 : decode cX5_work 234 = .ok (.ireturn, 1) := by decide +kernel
theorem dX5_work_235 : decode cX5_work 235 = .ok (.aload_n 0, 1) := by decide +kernel
theorem dX5_work_236 : decode cX5_work 236 = .ok (.invokevirtual 162, 3) := by decide +kernel
theorem dX5_work_239 : decode cX5_work 239 = .ok (.ireturn, 1) := by decide +kernel
theorem dX5_work_240 : decode cX5_work 240 = .ok (.aload_n 0, 1) := by decide +kernel
theorem dX5_work_241 : decode cX5_work 241 = .ok (.invokevirtual 165, 3) := by decide +kernel
theorem dX5_work_244 : decode cX5_work 244 = .ok (.ireturn, 1) := by decide +kernel
theorem dX5_work_245 : decode cX5_work 245 = .ok (.aload_n 0, 1) := by decide +kernel
theorem dX5_work_246 : decode cX5_work 246 = .ok (.aload_n 0, 1) := by decide +kernel
theorem dX5_work_247 : decode cX5_work 247 = .ok (.invokevirtual 153, 3) := by decide +kernel
theorem dX5_work_250 : decode cX5_work 250 = .ok (.invokevirtual 168, 3) := by decide +kernel
theorem dX5_work_253 : decode cX5_work 253 = .ok (.ireturn, 1) := by decide +kernel
theorem dX5_work_254 : decode cX5_work 254 = .ok (.aload_n 0, 1) := by decide +kernel
theorem dX5_work_255 : decode cX5_work 255 = .ok (.invokevirtual 171, 3) := by decide +kernel
theorem dX5_work_258 : decode cX5_work 258 = .ok (.ireturn, 1) := by decide +kernel
theorem dX5_work_259 : decode cX5_work 259 = .ok (.aload_n 0, 1) := by decide +kernel
theorem dX5_work_260 : decode cX5_work 260 = .ok (.getfield 127, 3) := by decide +kernel
theorem dX5_work_263 : decode cX5_work 263 = .ok (.ifCond .ne 7, 3) := by decide +kernel
theorem dX5_work_266 : decode cX5_work 266 = .ok (.iconst (-1), 1) := by decide +kernel
theorem dX5_work_267 : decode cX5_work 267 = .ok (.goto 7, 3) := by decide +kernel
theorem dX5_work_270 : decode cX5_work 270 = .ok (.aload_n 0, 1) := by decide +kernel
theorem dX5_work_271 : decode cX5_work 271 = .ok (.invokevirtual 156, 3) := by decide +kernel
theorem dX5_work_274 : decode cX5_work 274 = .ok (.ireturn, 1) := by decide +kernel
theorem dX5_work_275 : decode cX5_work 275 = .ok (.aload_n 0, 1) := by decide +kernel
theorem dX5_work_276 : decode cX5_work 276 = .ok (.getfield 127, 3) := by decide +kernel
theorem dX5_work_279 : decode cX5_work 279 = .ok (.ifCond .ne 10, 3) := by decide +kernel
theorem dX5_work_282 : decode cX5_work 282 = .ok (.aload_n 0, 1) := by decide +kernel
theorem dX5_work_283 : decode cX5_work 283 = .ok (.invokevirtual 174, 3) := by decide +kernel
theorem dX5_work_286 : decode cX5_work 286 = .ok (.goto 7, 3) := by decide +kernel
theorem dX5_work_289 : decode cX5_work 289 = .ok (.aload_n 0, 1) := by decide +kernel
theorem dX5_work_290 : decode cX5_work 290 = .ok (.invokevirtual 177, 3) := by decide +kernel
theorem dX5_work_293 : decode cX5_work 293 = .ok (.ireturn, 1) := by decide +kernel
theorem dX5_work_294 : decode cX5_work 294 = .ok (.aload_n 0, 1) := by decide +kernel
theorem dX5_work_295 : decode cX5_work 295 = .ok (.invokevirtual 156, 3) := by decide +kernel
theorem dX5_work_298 : decode cX5_work 298 = .ok (.ireturn, 1) := by decide +kernel
theorem dX5_isBelow_0 : decode cX5_isBelow 0 = .ok (.iload_n 0, 1) := by decide +kernel
theorem dX5_isBelow_1 : decode cX5_isBelow 1 = .ok (.ldc 180, 2) := by decide +kernel
theorem dX5_isBelow_3 : decode cX5_isBelow 3 = .ok (.ixor, 1) := by decide +kernel
theorem dX5_isBelow_4 : decode cX5_isBelow 4 = .ok (.iload_n 1, 1) := by decide +kernel
theorem dX5_isBelow_5 : decode cX5_isBelow 5 = .ok (.ldc 180, 2) := by decide +kernel
theorem dX5_isBelow_7 : decode cX5_isBelow 7 = .ok (.ixor, 1) := by decide +kernel
theorem dX5_isBelow_8 : decode cX5_isBelow 8 = .ok (.if_icmp .ge 7, 3) := by decide +kernel
theorem dX5_isBelow_11 : decode cX5_isBelow 11 = .ok (.iconst 1, 1) := by decide +kernel
theorem dX5_isBelow_12 : decode cX5_isBelow 12 = .ok (.goto 4, 3) := by decide +kernel
theorem dX5_isBelow_15 : decode cX5_isBelow 15 = .ok (.iconst 0, 1) := by decide +kernel
theorem dX5_isBelow_16 : decode cX5_isBelow 16 = .ok (.ireturn, 1) := by decide +kernel
theorem dX5_branch_0 : decode cX5_branch 0 = .ok (.aload_n 0, 1) := by decide +kernel
theorem dX5_branch_1 : decode cX5_branch 1 = .ok (.getfield 14, 3) := by decide +kernel
theorem dX5_branch_4 : decode cX5_branch 4 = .ok (.aload_n 0, 1) := by decide +kernel
theorem dX5_branch_5 : decode cX5_branch 5 = .ok (.getfield 130, 3) := by decide +kernel
theorem dX5_branch_8 : decode cX5_branch 8 = .ok (.iaload, 1) := by decide +kernel
theorem dX5_branch_9 : decode cX5_branch 9 = .ok (.istore_n 1, 1) := by decide +kernel
theorem dX5_branch_10 : decode cX5_branch 10 = .ok (.aload_n 0, 1) := by decide +kernel
theorem dX5_branch_11 : decode cX5_branch 11 = .ok (.getfield 14, 3) := by decide +kernel
theorem dX5_branch_14 : decode cX5_branch 14 = .ok (.aload_n 0, 1) := by decide +kernel
theorem dX5_branch_15 : decode cX5_branch 15 = .ok (.getfield 133, 3) := by decide +kernel
theorem dX5_branch_18 : decode cX5_branch 18 = .ok (.iaload, 1) := by decide +kernel
theorem dX5_branch_19 : decode cX5_branch 19 = .ok (.istore_n 2, 1) := by decide +kernel
theorem dX5_branch_20 : decode cX5_branch 20 = .ok (.iconst 0, 1) := by decide +kernel
theorem dX5_branch_21 : decode cX5_branch 21 = .ok (.istore_n 3, 1) := by decide +kernel
theorem dX5_branch_22 : decode cX5_branch 22 = .ok (.aload_n 0, 1) := by decide +kernel
theorem dX5_branch_23 : decode cX5_branch 23 = .ok (.getfield 127, 3) := by decide +kernel
theorem dX5_branch_26 : decode cX5_branch 26 = .ok (.tableswitch 128 0 7 #[46, 60, 128, 128, 74, 88, 102, 111], 46) := by decide +kernel
theorem dX5_branch_72 : decode cX5_branch 72 = .ok (.iload_n 1, 1) := by decide +kernel
theorem dX5_branch_73 : decode cX5_branch 73 = .ok (.iload_n 2, 1) := by decide +kernel
theorem dX5_branch_74 : decode cX5_branch 74 = .ok (.if_icmp .ne 7, 3) := by decide +kernel
theorem dX5_branch_77 : decode cX5_branch 77 = .ok (.iconst 1, 1) := by decide +kernel
theorem dX5_branch_78 : decode cX5_branch 78 = .ok (.goto 4, 3) := by decide +kernel
theorem dX5_branch_81 : decode cX5_branch 81 = .ok (.iconst 0, 1) := by decide +kernel
theorem dX5_branch_82 : decode cX5_branch 82 = .ok (.istore_n 3, 1) := by decide +kernel
theorem dX5_branch_83 : decode cX5_branch 83 = .ok (.goto 76, 3) := by decide +kernel
theorem dX5_branch_86 : decode cX5_branch 86 = .ok (.iload_n 1, 1) := by decide +kernel
theorem dX5_branch_87 : decode cX5_branch 87 = .ok (.iload_n 2, 1) := by decide +kernel
theorem dX5_branch_88 : decode cX5_branch 88 = .ok (.if_icmp .eq 7, 3) := by decide +kernel
theorem dX5_branch_91 : decode cX5_branch 91 = .ok (.iconst 1, 1) := by decide +kernel
theorem dX5_branch_92 : decode cX5_branch 92 = .ok (.goto 4, 3) := by decide +kernel
theorem dX5_branch_95 : decode cX5_branch 95 = .ok (.iconst 0, 1) := by decide +kernel
theorem dX5_branch_96 : decode cX5_branch 96 = .ok (.istore_n 3, 1) := by decide +kernel
theorem dX5_branch_97 : decode cX5_branch 97 = .ok (.goto 62, 3) := by decide +kernel
theorem dX5_branch_100 : decode cX5_branch 100 = .ok (.iload_n 1, 1) := by decide +kernel
theorem dX5_branch_101 : decode cX5_branch 101 = .ok (.iload_n 2, 1) := by decide +kernel
theorem dX5_branch_102 : decode cX5_branch 102 = .ok (.if_icmp .ge 7, 3) := by decide +kernel
theorem dX5_branch_105 : decode cX5_branch 105 = .ok (.iconst 1, 1) := by decide +kernel
theorem dX5_branch_106 : decode cX5_branch 106 = .ok (.goto 4, 3) := by decide +kernel
theorem dX5_branch_109 : decode cX5_branch 109 = .ok (.iconst 0, 1) := by decide +kernel
theorem dX5_branch_110 : decode cX5_branch 110 = .ok (.istore_n 3, 1) := by decide +kernel
theorem dX5_branch_111 : decode cX5_branch 111 = .ok (.goto 48, 3) := by decide +kernel
theorem dX5_branch_114 : decode cX5_branch 114 = .ok (.iload_n 1, 1) := by decide +kernel
theorem dX5_branch_115 : decode cX5_branch 115 = .ok (.iload_n 2, 1) := by decide +kernel
theorem dX5_branch_116 : decode cX5_branch 116 = .ok (.if_icmp .lt 7, 3) := by decide +kernel
theorem dX5_branch_119 : decode cX5_branch 119 = .ok (.iconst 1, 1) := by decide +kernel
theorem dX5_branch_120 : decode cX5_branch 120 = .ok (.goto 4, 3) := by decide +kernel
theorem dX5_branch_123 : decode cX5_branch 123 = .ok (.iconst 0, 1) := by decide +kernel
theorem dX5_branch_124 : decode cX5_branch 124 = .ok (.istore_n 3, 1) := by decide +kernel
theorem dX5_branch_125 : decode cX5_branch 125 = .ok (.goto 34, 3) := by decide +kernel
theorem dX5_branch_128 : decode cX5_branch 128 = .ok (.iload_n 1, 1) := by decide +kernel
theorem dX5_branch_129 : decode cX5_branch 129 = .ok (.iload_n 2, 1) := by decide +kernel
theorem dX5_branch_130 : decode cX5_branch 130 = .ok (.invokestatic 181, 3) := by decide +kernel
theorem dX5_branch_133 : decode cX5_branch 133 = .ok (.istore_n 3, 1) := by decide +kernel
theorem dX5_branch_134 : decode cX5_branch 134 = .ok (.goto 25, 3) := by decide +kernel
theorem dX5_branch_137 : decode cX5_branch 137 = .ok (.iload_n 1, 1) := by decide +kernel
theorem dX5_branch_138 : decode cX5_branch 138 = .ok (.iload_n 2, 1) := by decide +kernel
theorem dX5_branch_139 : decode cX5_branch 139 = .ok (.invokestatic 181, 3) := by decide +kernel
theorem dX5_branch_142 : decode cX5_branch 142 = .ok (.ifCond .ne 7, 3) := by decide +kernel
theorem dX5_branch_145 : decode cX5_branch 145 = .ok (.iconst 1, 1) := by decide +kernel
theorem dX5_branch_146 : decode cX5_branch 146 = .ok (.goto 4, 3) := by decide +kernel
theorem dX5_branch_149 : decode cX5_branch 149 = .ok (.iconst 0, 1) := by decide +kernel
theorem dX5_branch_150 : decode cX5_branch 150 = .ok (.istore_n 3, 1) := by decide +kernel
theorem dX5_branch_151 : decode cX5_branch 151 = .ok (.goto 8, 3) := by decide +kernel
theorem dX5_branch_154 : decode cX5_branch 154 = .ok (.aload_n 0, 1) := by decide +kernel
theorem dX5_branch_155 : decode cX5_branch 155 = .ok (.invokevirtual 156, 3) := by decide +kernel
theorem dX5_branch_158 : decode cX5_branch 158 = .ok (.ireturn, 1) := by decide +kernel
theorem dX5_branch_159 : decode cX5_branch 159 = .ok (.aload_n 0, 1) := by decide +kernel
theorem dX5_branch_160 : decode cX5_branch 160 = .ok (.getfield 118, 3) := by decide +kernel
theorem dX5_branch_163 : decode cX5_branch 163 = .ok (.bipush 31, 2) := by decide +kernel
theorem dX5_branch_165 : decode cX5_branch 165 = .ok (.ishr, 1) := by decide +kernel
theorem dX5_branch_166 : decode cX5_branch 166 = .ok (.bipush 12, 2) := by decide +kernel
theorem dX5_branch_168 : decode cX5_branch 168 = .ok (.ishl, 1) := by decide +kernel
theorem dX5_branch_169 : decode cX5_branch 169 = .ok (.aload_n 0, 1) := by decide +kernel
theorem dX5_branch_170 : decode cX5_branch 170 = .ok (.getfield 118, 3) := by decide +kernel
theorem dX5_branch_173 : decode cX5_branch 173 = .ok (.bipush 7, 2) := by decide +kernel
theorem dX5_branch_175 : decode cX5_branch 175 = .ok (.ishr, 1) := by decide +kernel
theorem dX5_branch_176 : decode cX5_branch 176 = .ok (.iconst 1, 1) := by decide +kernel
theorem dX5_branch_177 : decode cX5_branch 177 = .ok (.iand, 1) := by decide +kernel
theorem dX5_branch_178 : decode cX5_branch 178 = .ok (.bipush 11, 2) := by decide +kernel
theorem dX5_branch_180 : decode cX5_branch 180 = .ok (.ishl, 1) := by decide +kernel
theorem dX5_branch_181 : decode cX5_branch 181 = .ok (.ior, 1) := by decide +kernel
theorem dX5_branch_182 : decode cX5_branch 182 = .ok (.aload_n 0, 1) := by decide +kernel
theorem dX5_branch_183 : decode cX5_branch 183 = .ok (.getfield 118, 3) := by decide +kernel
theorem dX5_branch_186 : decode cX5_branch 186 = .ok (.bipush 25, 2) := by decide +kernel
theorem dX5_branch_188 : decode cX5_branch 188 = .ok (.ishr, 1) := by decide +kernel
theorem dX5_branch_189 : decode cX5_branch 189 = .ok (.bipush 63, 2) := by decide +kernel
theorem dX5_branch_191 : decode cX5_branch 191 = .ok (.iand, 1) := by decide +kernel
theorem dX5_branch_192 : decode cX5_branch 192 = .ok (.iconst 5, 1) := by decide +kernel
theorem dX5_branch_193 : decode cX5_branch 193 = .ok (.ishl, 1) := by decide +kernel
theorem dX5_branch_194 : decode cX5_branch 194 = .ok (.ior, 1) := by decide +kernel
theorem dX5_branch_195 : decode cX5_branch 195 = .ok (.aload_n 0, 1) := by decide +kernel
theorem dX5_branch_196 : decode cX5_branch 196 = .ok (.getfield 118, 3) := by decide +kernel
theorem dX5_branch_199 : decode cX5_branch 199 = .ok (.bipush 8, 2) := by decide +kernel
theorem dX5_branch_201 : decode cX5_branch 201 = .ok (.ishr, 1) := by decide +kernel
theorem dX5_branch_202 : decode cX5_branch 202 = .ok (.bipush 15, 2) := by decide +kernel
theorem dX5_branch_204 : decode cX5_branch 204 = .ok (.iand, 1) := by decide +kernel
theorem dX5_branch_205 : decode cX5_branch 205 = .ok (.iconst 1, 1) := by decide +kernel
theorem dX5_branch_206 : decode cX5_branch 206 = .ok (.ishl, 1) := by decide +kernel
theorem dX5_branch_207 : decode cX5_branch 207 = .ok (.ior, 1) := by decide +kernel
theorem dX5_branch_208 : decode cX5_branch 208 = .ok (.istore 4, 2) := by decide +kernel
theorem dX5_branch_210 : decode cX5_branch 210 = .ok (.iload_n 3, 1) := by decide +kernel
theorem dX5_branch_211 : decode cX5_branch 211 = .ok (.ifCond .eq 18, 3) := by decide +kernel
theorem dX5_branch_214 : decode cX5_branch 214 = .ok (.aload_n 0, 1) := by decide +kernel
theorem dX5_branch_215 : decode cX5_branch 215 = .ok (.aload_n 0, 1) := by decide +kernel
theorem dX5_branch_216 : decode cX5_branch 216 = .ok (.getfield 30, 3) := by decide +kernel
theorem dX5_branch_219 : decode cX5_branch 219 = .ok (.iload 4, 2) := by decide +kernel
theorem dX5_branch_221 : decode cX5_branch 221 = .ok (.iadd, 1) := by decide +kernel
theorem dX5_branch_222 : decode cX5_branch 222 = .ok (.iconst 0, 1) := by decide +kernel
theorem dX5_branch_223 : decode cX5_branch 223 = .ok (.invokevirtual 149, 3) := by decide +kernel
theorem dX5_branch_226 : decode cX5_branch 226 = .ok (.goto 4, 3) := by decide +kernel
theorem dX5_branch_229 : decode cX5_branch 229 = .ok (.iconst (-1), 1) := by decide +kernel
theorem dX5_branch_230 : decode cX5_branch 230 = .ok (.ireturn, 1) := by decide +kernel
theorem dX5_read_0 : decode cX5_read 0 = .ok (.aload_n 0, 1) := by decide +kernel
theorem dX5_read_1 : decode cX5_read 1 = .ok (.getfield 127, 3) := by decide +kernel
theorem dX5_read_4 : decode cX5_read 4 = .ok (.iconst 3, 1) := by decide +kernel
theorem dX5_read_5 : decode cX5_read 5 = .ok (.if_icmp .eq 11, 3) := by decide +kernel
theorem dX5_read_8 : decode cX5_read 8 = .ok (.aload_n 0, 1) := by decide +kernel
theorem dX5_read_9 : decode cX5_read 9 = .ok (.getfield 127, 3) := by decide +kernel
theorem dX5_read_12 : decode cX5_read 12 = .ok (.iconst 5, 1) := by decide +kernel
theorem dX5_read_13 : decode cX5_read 13 = .ok (.if_icmp .le 8, 3) := by decide +kernel
theorem dX5_read_16 : decode cX5_read 16 = .ok (.aload_n 0, 1) := by decide +kernel
theorem dX5_read_17 : decode cX5_read 17 = .ok (.invokevirtual 156, 3) := by decide +kernel
theorem dX5_read_20 : decode cX5_read 20 = .ok (.ireturn, 1) := by decide +kernel
theorem dX5_read_21 : decode cX5_read 21 = .ok (.aload_n 0, 1) := by decide +kernel
theorem dX5_read_22 : decode cX5_read 22 = .ok (.getfield 14, 3) := by decide +kernel
theorem dX5_read_25 : decode cX5_read 25 = .ok (.aload_n 0, 1) := by decide +kernel
theorem dX5_read_26 : decode cX5_read 26 = .ok (.getfield 130, 3) := by decide +kernel
theorem dX5_read_29 : decode cX5_read 29 = .ok (.iaload, 1) := by decide +kernel
theorem dX5_read_30 : decode cX5_read 30 = .ok (.aload_n 0, 1) := by decide +kernel
theorem dX5_read_31 : decode cX5_read 31 = .ok (.invokevirtual 153, 3) := by decide +kernel
theorem dX5_read_34 : decode cX5_read 34 = .ok (.iadd, 1) := by decide +kernel
theorem dX5_read_35 : decode cX5_read 35 = .ok (.istore_n 1, 1) := by decide +kernel
theorem dX5_read_36 : decode cX5_read 36 = .ok (.iconst 1, 1) := by decide +kernel
theorem dX5_read_37 : decode cX5_read 37 = .ok (.aload_n 0, 1) := by decide +kernel
theorem dX5_read_38 : decode cX5_read 38 = .ok (.getfield 127, 3) := by decide +kernel
theorem dX5_read_41 : decode cX5_read 41 = .ok (.iconst 3, 1) := by decide +kernel
theorem dX5_read_42 : decode cX5_read 42 = .ok (.iand, 1) := by decide +kernel
theorem dX5_read_43 : decode cX5_read 43 = .ok (.ishl, 1) := by decide +kernel
theorem dX5_read_44 : decode cX5_read 44 = .ok (.istore_n 2, 1) := by decide +kernel
theorem dX5_read_45 : decode cX5_read 45 = .ok (.iload_n 1, 1) := by decide +kernel
theorem dX5_read_46 : decode cX5_read 46 = .ok (.iload_n 2, 1) := by decide +kernel
theorem dX5_read_47 : decode cX5_read 47 = .ok (.iconst 1, 1) := by decide +kernel
theorem dX5_read_48 : decode cX5_read 48 = .ok (.isub, 1) := by decide +kernel
theorem dX5_read_49 : decode cX5_read 49 = .ok (.iand, 1) := by decide +kernel
theorem dX5_read_50 : decode cX5_read 50 = .ok (.ifCond .eq 10, 3) := by decide +kernel
theorem dX5_read_53 : decode cX5_read 53 = .ok (.aload_n 0, 1) := by decide +kernel
theorem dX5_read_54 : decode cX5_read 54 = .ok (.iconst 4, 1) := by decide +kernel
theorem dX5_read_55 : decode cX5_read 55 = .ok (.iload_n 1, 1) := by decide +kernel
theorem dX5_read_56 : decode cX5_read 56 = .ok (.invokevirtual 104, 3) := by decide +kernel
theorem dX5_read_59 : decode cX5_read 59 = .ok (.ireturn, 1) := by decide +kernel
theorem dX5_read_60 : decode cX5_read 60 = .ok (.iconst 0, 1) := by decide +kernel
theorem dX5_read_61 : decode cX5_read 61 = .ok (.istore_n 3, 1) := by decide +kernel
theorem dX5_read_62 : decode cX5_read 62 = .ok (.aload_n 0, 1) := by decide +kernel
theorem dX5_read_63 : decode cX5_read 63 = .ok (.iload_n 1, 1) := by decide +kernel
theorem dX5_read_64 : decode cX5_read 64 = .ok (.iload_n 2, 1) := by decide +kernel
theorem dX5_read_65 : decode cX5_read 65 = .ok (.invokevirtual 79, 3) := by decide +kernel
theorem dX5_read_68 : decode cX5_read 68 = .ok (.ifCond .eq 13, 3) := by decide +kernel
theorem dX5_read_71 : decode cX5_read 71 = .ok (.aload_n 0, 1) := by decide +kernel
theorem dX5_read_72 : decode cX5_read 72 = .ok (.iload_n 1, 1) := by decide +kernel
theorem dX5_read_73 : decode cX5_read 73 = .ok (.iload_n 2, 1) := by decide +kernel
theorem dX5_read_74 : decode cX5_read 74 = .ok (.invokevirtual 121, 3) := by decide +kernel
theorem dX5_read_77 : decode cX5_read 77 = .ok (.istore_n 3, 1) := by decide +kernel
theorem dX5_read_78 : decode cX5_read 78 = .ok (.goto 97, 3) := by decide +kernel
theorem dX5_read_81 : decode cX5_read 81 = .ok (.iload_n 2, 1) := by decide +kernel
theorem dX5_read_82 : decode cX5_read 82 = .ok (.iconst 4, 1) := by decide +kernel
theorem dX5_read_83 : decode cX5_read 83 = .ok (.if_icmp .ne 85, 3) := by decide +kernel
theorem dX5_read_86 : decode cX5_read 86 = .ok (.iload_n 1, 1) := by decide +kernel
theorem dX5_read_87 : decode cX5_read 87 = .ok (.invokestatic 184, 3) := by decide +kernel
theorem dX5_read_90 : decode cX5_read 90 = .ok (.ifCond .eq 78, 3) := by decide +kernel
theorem dX5_read_93 : decode cX5_read 93 = .ok (.iload_n 1, 1) := by decide +kernel
theorem dX5_read_94 : decode cX5_read 94 = .ok (.ldc 188, 2) := by decide +kernel
theorem dX5_read_96 : decode cX5_read 96 = .ok (.if_icmp .ne 11, 3) := by decide +kernel
theorem dX5_read_99 : decode cX5_read 99 = .ok (.aload_n 0, 1) := by decide +kernel
theorem dX5_read_100 : decode cX5_read 100 = .ok (.getfield 58, 3) := by decide +kernel
theorem dX5_read_103 : decode cX5_read 103 = .ok (.l2i, 1) := by decide +kernel
theorem dX5_read_104 : decode cX5_read 104 = .ok (.goto 60, 3) := by decide +kernel
theorem dX5_read_107 : decode cX5_read 107 = .ok (.iload_n 1, 1) := by decide +kernel
theorem dX5_read_108 : decode cX5_read 108 = .ok (.ldc 189, 2) := by decide +kernel
theorem dX5_read_110 : decode cX5_read 110 = .ok (.if_icmp .ne 14, 3) := by decide +kernel
theorem dX5_read_113 : decode cX5_read 113 = .ok (.aload_n 0, 1) := by decide +kernel
theorem dX5_read_114 : decode cX5_read 114 = .ok (.getfield 58, 3) := by decide +kernel
theorem dX5_read_117 : decode cX5_read 117 = .ok (.bipush 32, 2) := by decide +kernel
theorem dX5_read_119 : decode cX5_read 119 = .ok (.lshr, 1) := by decide +kernel
theorem dX5_read_120 : decode cX5_read 120 = .ok (.l2i, 1) := by decide +kernel
theorem dX5_read_121 : decode cX5_read 121 = .ok (.goto 43, 3) := by decide +kernel
theorem dX5_read_124 : decode cX5_read 124 = .ok (.iload_n 1, 1) := by decide +kernel
theorem dX5_read_125 : decode cX5_read 125 = .ok (.ldc 190, 2) := by decide +kernel
theorem dX5_read_127 : decode cX5_read 127 = .ok (.if_icmp .ne 11, 3) := by decide +kernel
theorem dX5_read_130 : decode cX5_read 130 = .ok (.aload_n 0, 1) := by decide +kernel
theorem dX5_read_131 : decode cX5_read 131 = .ok (.getfield 64, 3) := by decide +kernel
theorem dX5_read_134 : decode cX5_read 134 = .ok (.l2i, 1) := by decide +kernel
theorem dX5_read_135 : decode cX5_read 135 = .ok (.goto 29, 3) := by decide +kernel
theorem dX5_read_138 : decode cX5_read 138 = .ok (.iload_n 1, 1) := by decide +kernel
theorem dX5_read_139 : decode cX5_read 139 = .ok (.ldc 191, 2) := by decide +kernel
theorem dX5_read_141 : decode cX5_read 141 = .ok (.if_icmp .ne 14, 3) := by decide +kernel
theorem dX5_read_144 : decode cX5_read 144 = .ok (.aload_n 0, 1) := by decide +kernel
theorem dX5_read_145 : decode cX5_read 145 = .ok (.getfield 64, 3) := by decide +kernel
theorem dX5_read_148 : decode cX5_read 148 = .ok (.bipush 32, 2) := by decide +kernel
theorem dX5_read_150 : decode cX5_read 150 = .ok (.lshr, 1) := by decide +kernel
theorem dX5_read_151 : decode cX5_read 151 = .ok (.l2i, 1) := by decide +kernel
theorem dX5_read_152 : decode cX5_read 152 = .ok (.goto 12, 3) := by decide +kernel
theorem dX5_read_155 : decode cX5_read 155 = .ok (.aload_n 0, 1) := by decide +kernel
theorem dX5_read_156 : decode cX5_read 156 = .ok (.getfield 24, 3) := by decide +kernel
theorem dX5_read_159 : decode cX5_read 159 = .ok (.aload_n 0, 1) := by decide +kernel
theorem dX5_read_160 : decode cX5_read 160 = .ok (.getfield 67, 3) := by decide +kernel
theorem dX5_read_163 : decode cX5_read 163 = .ok (.isub, 1) := by decide +kernel
theorem dX5_read_164 : decode cX5_read 164 = .ok (.istore_n 3, 1) := by decide +kernel
theorem dX5_read_165 : decode cX5_read 165 = .ok (.goto 10, 3) := by decide +kernel
theorem dX5_read_168 : decode cX5_read 168 = .ok (.aload_n 0, 1) := by decide +kernel
theorem dX5_read_169 : decode cX5_read 169 = .ok (.iconst 5, 1) := by decide +kernel
theorem dX5_read_170 : decode cX5_read 170 = .ok (.iload_n 1, 1) := by decide +kernel
theorem dX5_read_171 : decode cX5_read 171 = .ok (.invokevirtual 104, 3) := by decide +kernel
theorem dX5_read_174 : decode cX5_read 174 = .ok (.ireturn, 1) := by decide +kernel
theorem dX5_read_175 : decode cX5_read 175 = .ok (.aload_n 0, 1) := by decide +kernel
theorem dX5_read_176 : decode cX5_read 176 = .ok (.getfield 127, 3) := by decide +kernel
theorem dX5_read_179 : decode cX5_read 179 = .ok (.ifCond .ne 13, 3) := by decide +kernel
theorem dX5_read_182 : decode cX5_read 182 = .ok (.iload_n 3, 1) := by decide +kernel
theorem dX5_read_183 : decode cX5_read 183 = .ok (.bipush 24, 2) := by decide +kernel
theorem dX5_read_185 : decode cX5_read 185 = .ok (.ishl, 1) := by decide +kernel
theorem dX5_read_186 : decode cX5_read 186 = .ok (.bipush 24, 2) := by decide +kernel
theorem dX5_read_188 : decode cX5_read 188 = .ok (.ishr, 1) := by decide +kernel
theorem dX5_read_189 : decode cX5_read 189 = .ok (.goto 22, 3) := by decide +kernel
theorem dX5_read_192 : decode cX5_read 192 = .ok (.aload_n 0, 1) := by decide +kernel
theorem dX5_read_193 : decode cX5_read 193 = .ok (.getfield 127, 3) := by decide +kernel
theorem dX5_read_196 : decode cX5_read 196 = .ok (.iconst 1, 1) := by decide +kernel
theorem dX5_read_197 : decode cX5_read 197 = .ok (.if_icmp .ne 13, 3) := by decide +kernel
theorem dX5_read_200 : decode cX5_read 200 = .ok (.iload_n 3, 1) := by decide +kernel
theorem dX5_read_201 : decode cX5_read 201 = .ok (.bipush 16, 2) := by decide +kernel
theorem dX5_read_203 : decode cX5_read 203 = .ok (.ishl, 1) := by decide +kernel
theorem dX5_read_204 : decode cX5_read 204 = .ok (.bipush 16, 2) := by decide +kernel
theorem dX5_read_206 : decode cX5_read 206 = .ok (.ishr, 1) := by decide +kernel
theorem dX5_read_207 : decode cX5_read 207 = .ok (.goto 4, 3) := by decide +kernel
theorem dX5_read_210 : decode cX5_read 210 = .ok (.iload_n 3, 1) := by decide +kernel
theorem dX5_read_211 : decode cX5_read 211 = .ok (.istore_n 3, 1) := by decide +kernel
theorem dX5_read_212 : decode cX5_read 212 = .ok (.aload_n 0, 1) := by decide +kernel
theorem dX5_read_213 : decode cX5_read 213 = .ok (.iload_n 3, 1) := by decide +kernel
theorem dX5_read_214 : decode cX5_read 214 = .ok (.invokevirtual 145, 3) := by decide +kernel
theorem dX5_read_217 : decode cX5_read 217 = .ok (.ireturn, 1) := by decide +kernel
theorem dX5_isDevice_0 : decode cX5_isDevice 0 = .ok (.iload_n 0, 1) := by decide +kernel
theorem dX5_isDevice_1 : decode cX5_isDevice 1 = .ok (.invokestatic 192, 3) := by decide +kernel
theorem dX5_isDevice_4 : decode cX5_isDevice 4 = .ok (.ifCond .ne 9, 3) := by decide +kernel
theorem dX5_isDevice_7 : decode cX5_isDevice 7 = .ok (.iload_n 0, 1) := by decide +kernel
theorem dX5_isDevice_8 : decode cX5_isDevice 8 = .ok (.ldc 195, 2) := by decide +kernel
theorem dX5_isDevice_10 : decode cX5_isDevice 10 = .ok (.if_icmp .ne 7, 3) := by decide +kernel
theorem dX5_isDevice_13 : decode cX5_isDevice 13 = .ok (.iconst 1, 1) := by decide +kernel
theorem dX5_isDevice_14 : decode cX5_isDevice 14 = .ok (.goto 4, 3) := by decide +kernel
theorem dX5_isDevice_17 : decode cX5_isDevice 17 = .ok (.iconst 0, 1) := by decide +kernel
theorem dX5_isDevice_18 : decode cX5_isDevice 18 = .ok (.ireturn, 1) := by decide +kernel
theorem dX5_isClock_0 : decode cX5_isClock 0 = .ok (.iload_n 0, 1) := by decide +kernel
theorem dX5_isClock_1 : decode cX5_isClock 1 = .ok (.ldc 188, 2) := by decide +kernel
theorem dX5_isClock_3 : decode cX5_isClock 3 = .ok (.if_icmp .eq 21, 3) := by decide +kernel
theorem dX5_isClock_6 : decode cX5_isClock 6 = .ok (.iload_n 0, 1) := by decide +kernel
theorem dX5_isClock_7 : decode cX5_isClock 7 = .ok (.ldc 189, 2) := by decide +kernel
theorem dX5_isClock_9 : decode cX5_isClock 9 = .ok (.if_icmp .eq 15, 3) := by decide +kernel
theorem dX5_isClock_12 : decode cX5_isClock 12 = .ok (.iload_n 0, 1) := by decide +kernel
theorem dX5_isClock_13 : decode cX5_isClock 13 = .ok (.ldc 190, 2) := by decide +kernel
theorem dX5_isClock_15 : decode cX5_isClock 15 = .ok (.if_icmp .eq 9, 3) := by decide +kernel
theorem dX5_isClock_18 : decode cX5_isClock 18 = .ok (.iload_n 0, 1) := by decide +kernel
theorem dX5_isClock_19 : decode cX5_isClock 19 = .ok (.ldc 191, 2) := by decide +kernel
theorem dX5_isClock_21 : decode cX5_isClock 21 = .ok (.if_icmp .ne 7, 3) := by decide +kernel
theorem dX5_isClock_24 : decode cX5_isClock 24 = .ok (.iconst 1, 1) := by decide +kernel
theorem dX5_isClock_25 : decode cX5_isClock 25 = .ok (.goto 4, 3) := by decide +kernel
theorem dX5_isClock_28 : decode cX5_isClock 28 = .ok (.iconst 0, 1) := by decide +kernel
theorem dX5_isClock_29 : decode cX5_isClock 29 = .ok (.ireturn, 1) := by decide +kernel
theorem dX5_mixed_0 : decode cX5_mixed 0 = .ok (.iload_n 2, 1) := by decide +kernel
theorem dX5_mixed_1 : decode cX5_mixed 1 = .ok (.ifCond .eq 17, 3) := by decide +kernel
theorem dX5_mixed_4 : decode cX5_mixed 4 = .ok (.iload_n 3, 1) := by decide +kernel
theorem dX5_mixed_5 : decode cX5_mixed 5 = .ok (.i2l, 1) := by decide +kernel
theorem dX5_mixed_6 : decode cX5_mixed 6 = .ok (.bipush 32, 2) := by decide +kernel
theorem dX5_mixed_8 : decode cX5_mixed 8 = .ok (.lshl, 1) := by decide +kernel
theorem dX5_mixed_9 : decode cX5_mixed 9 = .ok (.lload_n 0, 1) := by decide +kernel
theorem dX5_mixed_10 : decode cX5_mixed 10 = .ok (.ldc2_w 196, 3) := by decide +kernel
end
section
/-! decode rows -/
theorem dX5_mixed_13 : decode cX5_mixed 13 = .ok (.land, 1) := by decide +kernel
theorem dX5_mixed_14 : decode cX5_mixed 14 = .ok (.lor, 1) := by decide +kernel
theorem dX5_mixed_15 : decode cX5_mixed 15 = .ok (.goto 17, 3) := by decide +kernel
theorem dX5_mixed_18 : decode cX5_mixed 18 = .ok (.lload_n 0, 1) := by decide +kernel
theorem dX5_mixed_19 : decode cX5_mixed 19 = .ok (.bipush 32, 2) := by decide +kernel
theorem dX5_mixed_21 : decode cX5_mixed 21 = .ok (.lshr, 1) := by decide +kernel
theorem dX5_mixed_22 : decode cX5_mixed 22 = .ok (.bipush 32, 2) := by decide +kernel
theorem dX5_mixed_24 : decode cX5_mixed 24 = .ok (.lshl, 1) := by decide +kernel
theorem dX5_mixed_25 : decode cX5_mixed 25 = .ok (.iload_n 3, 1) := by decide +kernel
theorem dX5_mixed_26 : decode cX5_mixed 26 = .ok (.i2l, 1) := by decide +kernel
theorem dX5_mixed_27 : decode cX5_mixed 27 = .ok (.ldc2_w 196, 3) := by decide +kernel
theorem dX5_mixed_30 : decode cX5_mixed 30 = .ok (.land, 1) := by decide +kernel
theorem dX5_mixed_31 : decode cX5_mixed 31 = .ok (.lor, 1) := by decide +kernel
theorem dX5_mixed_32 : decode cX5_mixed 32 = .ok (.lreturn, 1) := by decide +kernel
theorem dX5_store_0 : decode cX5_store 0 = .ok (.aload_n 0, 1) := by decide +kernel
theorem dX5_store_1 : decode cX5_store 1 = .ok (.getfield 127, 3) := by decide +kernel
theorem dX5_store_4 : decode cX5_store 4 = .ok (.iconst 2, 1) := by decide +kernel
theorem dX5_store_5 : decode cX5_store 5 = .ok (.if_icmp .le 8, 3) := by decide +kernel
theorem dX5_store_8 : decode cX5_store 8 = .ok (.aload_n 0, 1) := by decide +kernel
theorem dX5_store_9 : decode cX5_store 9 = .ok (.invokevirtual 156, 3) := by decide +kernel
theorem dX5_store_12 : decode cX5_store 12 = .ok (.ireturn, 1) := by decide +kernel
theorem dX5_store_13 : decode cX5_store 13 = .ok (.aload_n 0, 1) := by decide +kernel
theorem dX5_store_14 : decode cX5_store 14 = .ok (.getfield 14, 3) := by decide +kernel
theorem dX5_store_17 : decode cX5_store 17 = .ok (.aload_n 0, 1) := by decide +kernel
theorem dX5_store_18 : decode cX5_store 18 = .ok (.getfield 130, 3) := by decide +kernel
theorem dX5_store_21 : decode cX5_store 21 = .ok (.iaload, 1) := by decide +kernel
theorem dX5_store_22 : decode cX5_store 22 = .ok (.aload_n 0, 1) := by decide +kernel
theorem dX5_store_23 : decode cX5_store 23 = .ok (.getfield 118, 3) := by decide +kernel
theorem dX5_store_26 : decode cX5_store 26 = .ok (.bipush 25, 2) := by decide +kernel
theorem dX5_store_28 : decode cX5_store 28 = .ok (.ishr, 1) := by decide +kernel
theorem dX5_store_29 : decode cX5_store 29 = .ok (.iconst 5, 1) := by decide +kernel
theorem dX5_store_30 : decode cX5_store 30 = .ok (.ishl, 1) := by decide +kernel
theorem dX5_store_31 : decode cX5_store 31 = .ok (.aload_n 0, 1) := by decide +kernel
theorem dX5_store_32 : decode cX5_store 32 = .ok (.getfield 124, 3) := by decide +kernel
theorem dX5_store_35 : decode cX5_store 35 = .ok (.ior, 1) := by decide +kernel
theorem dX5_store_36 : decode cX5_store 36 = .ok (.iadd, 1) := by decide +kernel
theorem dX5_store_37 : decode cX5_store 37 = .ok (.istore_n 1, 1) := by decide +kernel
theorem dX5_store_38 : decode cX5_store 38 = .ok (.iconst 1, 1) := by decide +kernel
theorem dX5_store_39 : decode cX5_store 39 = .ok (.aload_n 0, 1) := by decide +kernel
theorem dX5_store_40 : decode cX5_store 40 = .ok (.getfield 127, 3) := by decide +kernel
theorem dX5_store_43 : decode cX5_store 43 = .ok (.ishl, 1) := by decide +kernel
theorem dX5_store_44 : decode cX5_store 44 = .ok (.istore_n 2, 1) := by decide +kernel
theorem dX5_store_45 : decode cX5_store 45 = .ok (.aload_n 0, 1) := by decide +kernel
theorem dX5_store_46 : decode cX5_store 46 = .ok (.getfield 14, 3) := by decide +kernel
theorem dX5_store_49 : decode cX5_store 49 = .ok (.aload_n 0, 1) := by decide +kernel
theorem dX5_store_50 : decode cX5_store 50 = .ok (.getfield 133, 3) := by decide +kernel
theorem dX5_store_53 : decode cX5_store 53 = .ok (.iaload, 1) := by decide +kernel
theorem dX5_store_54 : decode cX5_store 54 = .ok (.istore_n 3, 1) := by decide +kernel
theorem dX5_store_55 : decode cX5_store 55 = .ok (.iload_n 1, 1) := by decide +kernel
theorem dX5_store_56 : decode cX5_store 56 = .ok (.iload_n 2, 1) := by decide +kernel
theorem dX5_store_57 : decode cX5_store 57 = .ok (.iconst 1, 1) := by decide +kernel
theorem dX5_store_58 : decode cX5_store 58 = .ok (.isub, 1) := by decide +kernel
theorem dX5_store_59 : decode cX5_store 59 = .ok (.iand, 1) := by decide +kernel
theorem dX5_store_60 : decode cX5_store 60 = .ok (.ifCond .eq 11, 3) := by decide +kernel
theorem dX5_store_63 : decode cX5_store 63 = .ok (.aload_n 0, 1) := by decide +kernel
theorem dX5_store_64 : decode cX5_store 64 = .ok (.bipush 6, 2) := by decide +kernel
theorem dX5_store_66 : decode cX5_store 66 = .ok (.iload_n 1, 1) := by decide +kernel
theorem dX5_store_67 : decode cX5_store 67 = .ok (.invokevirtual 104, 3) := by decide +kernel
theorem dX5_store_70 : decode cX5_store 70 = .ok (.ireturn, 1) := by decide +kernel
theorem dX5_store_71 : decode cX5_store 71 = .ok (.aload_n 0, 1) := by decide +kernel
theorem dX5_store_72 : decode cX5_store 72 = .ok (.iload_n 1, 1) := by decide +kernel
theorem dX5_store_73 : decode cX5_store 73 = .ok (.iload_n 2, 1) := by decide +kernel
theorem dX5_store_74 : decode cX5_store 74 = .ok (.invokevirtual 79, 3) := by decide +kernel
theorem dX5_store_77 : decode cX5_store 77 = .ok (.ifCond .eq 13, 3) := by decide +kernel
theorem dX5_store_80 : decode cX5_store 80 = .ok (.aload_n 0, 1) := by decide +kernel
theorem dX5_store_81 : decode cX5_store 81 = .ok (.iload_n 1, 1) := by decide +kernel
theorem dX5_store_82 : decode cX5_store 82 = .ok (.iload_n 2, 1) := by decide +kernel
theorem dX5_store_83 : decode cX5_store 83 = .ok (.iload_n 3, 1) := by decide +kernel
theorem dX5_store_84 : decode cX5_store 84 = .ok (.invokevirtual 83, 3) := by decide +kernel
theorem dX5_store_87 : decode cX5_store 87 = .ok (.goto 134, 3) := by decide +kernel
theorem dX5_store_90 : decode cX5_store 90 = .ok (.iload_n 1, 1) := by decide +kernel
theorem dX5_store_91 : decode cX5_store 91 = .ok (.ldc 195, 2) := by decide +kernel
theorem dX5_store_93 : decode cX5_store 93 = .ok (.if_icmp .ne 43, 3) := by decide +kernel
theorem dX5_store_96 : decode cX5_store 96 = .ok (.aload_n 0, 1) := by decide +kernel
theorem dX5_store_97 : decode cX5_store 97 = .ok (.getfield 67, 3) := by decide +kernel
theorem dX5_store_100 : decode cX5_store 100 = .ok (.aload_n 0, 1) := by decide +kernel
theorem dX5_store_101 : decode cX5_store 101 = .ok (.getfield 24, 3) := by decide +kernel
theorem dX5_store_104 : decode cX5_store 104 = .ok (.if_icmp .ne 5, 3) := by decide +kernel
theorem dX5_store_107 : decode cX5_store 107 = .ok (.iconst 4, 1) := by decide +kernel
theorem dX5_store_108 : decode cX5_store 108 = .ok (.ireturn, 1) := by decide +kernel
theorem dX5_store_109 : decode cX5_store 109 = .ok (.aload_n 0, 1) := by decide +kernel
theorem dX5_store_110 : decode cX5_store 110 = .ok (.getfield 17, 3) := by decide +kernel
theorem dX5_store_113 : decode cX5_store 113 = .ok (.aload_n 0, 1) := by decide +kernel
theorem dX5_store_114 : decode cX5_store 114 = .ok (.getfield 67, 3) := by decide +kernel
theorem dX5_store_117 : decode cX5_store 117 = .ok (.iload_n 3, 1) := by decide +kernel
theorem dX5_store_118 : decode cX5_store 118 = .ok (.sipush 255, 3) := by decide +kernel
theorem dX5_store_121 : decode cX5_store 121 = .ok (.iand, 1) := by decide +kernel
theorem dX5_store_122 : decode cX5_store 122 = .ok (.iastore, 1) := by decide +kernel
theorem dX5_store_123 : decode cX5_store 123 = .ok (.aload_n 0, 1) := by decide +kernel
theorem dX5_store_124 : decode cX5_store 124 = .ok (.dup, 1) := by decide +kernel
theorem dX5_store_125 : decode cX5_store 125 = .ok (.getfield 67, 3) := by decide +kernel
theorem dX5_store_128 : decode cX5_store 128 = .ok (.iconst 1, 1) := by decide +kernel
theorem dX5_store_129 : decode cX5_store 129 = .ok (.iadd, 1) := by decide +kernel
theorem dX5_store_130 : decode cX5_store 130 = .ok (.putfield 67, 3) := by decide +kernel
theorem dX5_store_133 : decode cX5_store 133 = .ok (.goto 88, 3) := by decide +kernel
theorem dX5_store_136 : decode cX5_store 136 = .ok (.iload_n 2, 1) := by decide +kernel
theorem dX5_store_137 : decode cX5_store 137 = .ok (.iconst 4, 1) := by decide +kernel
theorem dX5_store_138 : decode cX5_store 138 = .ok (.if_icmp .ne 75, 3) := by decide +kernel
theorem dX5_store_141 : decode cX5_store 141 = .ok (.iload_n 1, 1) := by decide +kernel
theorem dX5_store_142 : decode cX5_store 142 = .ok (.invokestatic 192, 3) := by decide +kernel
theorem dX5_store_145 : decode cX5_store 145 = .ok (.ifCond .eq 68, 3) := by decide +kernel
theorem dX5_store_148 : decode cX5_store 148 = .ok (.iload_n 1, 1) := by decide +kernel
theorem dX5_store_149 : decode cX5_store 149 = .ok (.ldc 189, 2) := by decide +kernel
theorem dX5_store_151 : decode cX5_store 151 = .ok (.if_icmp .eq 9, 3) := by decide +kernel
theorem dX5_store_154 : decode cX5_store 154 = .ok (.iload_n 1, 1) := by decide +kernel
theorem dX5_store_155 : decode cX5_store 155 = .ok (.ldc 191, 2) := by decide +kernel
theorem dX5_store_157 : decode cX5_store 157 = .ok (.if_icmp .ne 7, 3) := by decide +kernel
theorem dX5_store_160 : decode cX5_store 160 = .ok (.iconst 1, 1) := by decide +kernel
theorem dX5_store_161 : decode cX5_store 161 = .ok (.goto 4, 3) := by decide +kernel
theorem dX5_store_164 : decode cX5_store 164 = .ok (.iconst 0, 1) := by decide +kernel
theorem dX5_store_165 : decode cX5_store 165 = .ok (.istore 4, 2) := by decide +kernel
theorem dX5_store_167 : decode cX5_store 167 = .ok (.iload_n 1, 1) := by decide +kernel
theorem dX5_store_168 : decode cX5_store 168 = .ok (.ldc 188, 2) := by decide +kernel
theorem dX5_store_170 : decode cX5_store 170 = .ok (.if_icmp .eq 9, 3) := by decide +kernel
theorem dX5_store_173 : decode cX5_store 173 = .ok (.iload_n 1, 1) := by decide +kernel
theorem dX5_store_174 : decode cX5_store 174 = .ok (.ldc 189, 2) := by decide +kernel
theorem dX5_store_176 : decode cX5_store 176 = .ok (.if_icmp .ne 20, 3) := by decide +kernel
theorem dX5_store_179 : decode cX5_store 179 = .ok (.aload_n 0, 1) := by decide +kernel
theorem dX5_store_180 : decode cX5_store 180 = .ok (.aload_n 0, 1) := by decide +kernel
theorem dX5_store_181 : decode cX5_store 181 = .ok (.getfield 58, 3) := by decide +kernel
theorem dX5_store_184 : decode cX5_store 184 = .ok (.iload 4, 2) := by decide +kernel
theorem dX5_store_186 : decode cX5_store 186 = .ok (.iload_n 3, 1) := by decide +kernel
theorem dX5_store_187 : decode cX5_store 187 = .ok (.invokestatic 198, 3) := by decide +kernel
theorem dX5_store_190 : decode cX5_store 190 = .ok (.putfield 58, 3) := by decide +kernel
theorem dX5_store_193 : decode cX5_store 193 = .ok (.goto 17, 3) := by decide +kernel
theorem dX5_store_196 : decode cX5_store 196 = .ok (.aload_n 0, 1) := by decide +kernel
theorem dX5_store_197 : decode cX5_store 197 = .ok (.aload_n 0, 1) := by decide +kernel
theorem dX5_store_198 : decode cX5_store 198 = .ok (.getfield 64, 3) := by decide +kernel
theorem dX5_store_201 : decode cX5_store 201 = .ok (.iload 4, 2) := by decide +kernel
theorem dX5_store_203 : decode cX5_store 203 = .ok (.iload_n 3, 1) := by decide +kernel
theorem dX5_store_204 : decode cX5_store 204 = .ok (.invokestatic 198, 3) := by decide +kernel
theorem dX5_store_207 : decode cX5_store 207 = .ok (.putfield 64, 3) := by decide +kernel
theorem dX5_store_210 : decode cX5_store 210 = .ok (.goto 11, 3) := by decide +kernel
theorem dX5_store_213 : decode cX5_store 213 = .ok (.aload_n 0, 1) := by decide +kernel
theorem dX5_store_214 : decode cX5_store 214 = .ok (.bipush 7, 2) := by decide +kernel
theorem dX5_store_216 : decode cX5_store 216 = .ok (.iload_n 1, 1) := by decide +kernel
theorem dX5_store_217 : decode cX5_store 217 = .ok (.invokevirtual 104, 3) := by decide +kernel
theorem dX5_store_220 : decode cX5_store 220 = .ok (.ireturn, 1) := by decide +kernel
theorem dX5_store_221 : decode cX5_store 221 = .ok (.iconst (-1), 1) := by decide +kernel
theorem dX5_store_222 : decode cX5_store 222 = .ok (.ireturn, 1) := by decide +kernel
theorem dX5_reckonBy_0 : decode cX5_reckonBy 0 = .ok (.aload_n 0, 1) := by decide +kernel
theorem dX5_reckonBy_1 : decode cX5_reckonBy 1 = .ok (.getfield 14, 3) := by decide +kernel
theorem dX5_reckonBy_4 : decode cX5_reckonBy 4 = .ok (.aload_n 0, 1) := by decide +kernel
theorem dX5_reckonBy_5 : decode cX5_reckonBy 5 = .ok (.getfield 130, 3) := by decide +kernel
theorem dX5_reckonBy_8 : decode cX5_reckonBy 8 = .ok (.iaload, 1) := by decide +kernel
theorem dX5_reckonBy_9 : decode cX5_reckonBy 9 = .ok (.istore_n 2, 1) := by decide +kernel
theorem dX5_reckonBy_10 : decode cX5_reckonBy 10 = .ok (.aload_n 0, 1) := by decide +kernel
theorem dX5_reckonBy_11 : decode cX5_reckonBy 11 = .ok (.getfield 127, 3) := by decide +kernel
theorem dX5_reckonBy_14 : decode cX5_reckonBy 14 = .ok (.iconst 1, 1) := by decide +kernel
theorem dX5_reckonBy_15 : decode cX5_reckonBy 15 = .ok (.if_icmp .ne 28, 3) := by decide +kernel
theorem dX5_reckonBy_18 : decode cX5_reckonBy 18 = .ok (.aload_n 0, 1) := by decide +kernel
theorem dX5_reckonBy_19 : decode cX5_reckonBy 19 = .ok (.getfield 136, 3) := by decide +kernel
theorem dX5_reckonBy_22 : decode cX5_reckonBy 22 = .ok (.ifCond .ne 16, 3) := by decide +kernel
theorem dX5_reckonBy_25 : decode cX5_reckonBy 25 = .ok (.aload_n 0, 1) := by decide +kernel
theorem dX5_reckonBy_26 : decode cX5_reckonBy 26 = .ok (.iload_n 2, 1) := by decide +kernel
theorem dX5_reckonBy_27 : decode cX5_reckonBy 27 = .ok (.aload_n 0, 1) := by decide +kernel
theorem dX5_reckonBy_28 : decode cX5_reckonBy 28 = .ok (.getfield 133, 3) := by decide +kernel
theorem dX5_reckonBy_31 : decode cX5_reckonBy 31 = .ok (.ishl, 1) := by decide +kernel
theorem dX5_reckonBy_32 : decode cX5_reckonBy 32 = .ok (.invokevirtual 145, 3) := by decide +kernel
theorem dX5_reckonBy_35 : decode cX5_reckonBy 35 = .ok (.goto 7, 3) := by decide +kernel
theorem dX5_reckonBy_38 : decode cX5_reckonBy 38 = .ok (.aload_n 0, 1) := by decide +kernel
theorem dX5_reckonBy_39 : decode cX5_reckonBy 39 = .ok (.invokevirtual 156, 3) := by decide +kernel
theorem dX5_reckonBy_42 : decode cX5_reckonBy 42 = .ok (.ireturn, 1) := by decide +kernel
theorem dX5_reckonBy_43 : decode cX5_reckonBy 43 = .ok (.aload_n 0, 1) := by decide +kernel
theorem dX5_reckonBy_44 : decode cX5_reckonBy 44 = .ok (.getfield 127, 3) := by decide +kernel
theorem dX5_reckonBy_47 : decode cX5_reckonBy 47 = .ok (.iconst 5, 1) := by decide +kernel
theorem dX5_reckonBy_48 : decode cX5_reckonBy 48 = .ok (.if_icmp .ne 50, 3) := by decide +kernel
theorem dX5_reckonBy_51 : decode cX5_reckonBy 51 = .ok (.aload_n 0, 1) := by decide +kernel
theorem dX5_reckonBy_52 : decode cX5_reckonBy 52 = .ok (.getfield 136, 3) := by decide +kernel
theorem dX5_reckonBy_55 : decode cX5_reckonBy 55 = .ok (.ifCond .ne 16, 3) := by decide +kernel
theorem dX5_reckonBy_58 : decode cX5_reckonBy 58 = .ok (.aload_n 0, 1) := by decide +kernel
theorem dX5_reckonBy_59 : decode cX5_reckonBy 59 = .ok (.iload_n 2, 1) := by decide +kernel
theorem dX5_reckonBy_60 : decode cX5_reckonBy 60 = .ok (.aload_n 0, 1) := by decide +kernel
theorem dX5_reckonBy_61 : decode cX5_reckonBy 61 = .ok (.getfield 133, 3) := by decide +kernel
theorem dX5_reckonBy_64 : decode cX5_reckonBy 64 = .ok (.iushr, 1) := by decide +kernel
theorem dX5_reckonBy_65 : decode cX5_reckonBy 65 = .ok (.invokevirtual 145, 3) := by decide +kernel
theorem dX5_reckonBy_68 : decode cX5_reckonBy 68 = .ok (.goto 29, 3) := by decide +kernel
theorem dX5_reckonBy_71 : decode cX5_reckonBy 71 = .ok (.aload_n 0, 1) := by decide +kernel
theorem dX5_reckonBy_72 : decode cX5_reckonBy 72 = .ok (.getfield 136, 3) := by decide +kernel
theorem dX5_reckonBy_75 : decode cX5_reckonBy 75 = .ok (.bipush 32, 2) := by decide +kernel
theorem dX5_reckonBy_77 : decode cX5_reckonBy 77 = .ok (.if_icmp .ne 16, 3) := by decide +kernel
theorem dX5_reckonBy_80 : decode cX5_reckonBy 80 = .ok (.aload_n 0, 1) := by decide +kernel
theorem dX5_reckonBy_81 : decode cX5_reckonBy 81 = .ok (.iload_n 2, 1) := by decide +kernel
theorem dX5_reckonBy_82 : decode cX5_reckonBy 82 = .ok (.aload_n 0, 1) := by decide +kernel
theorem dX5_reckonBy_83 : decode cX5_reckonBy 83 = .ok (.getfield 133, 3) := by decide +kernel
theorem dX5_reckonBy_86 : decode cX5_reckonBy 86 = .ok (.ishr, 1) := by decide +kernel
theorem dX5_reckonBy_87 : decode cX5_reckonBy 87 = .ok (.invokevirtual 145, 3) := by decide +kernel
theorem dX5_reckonBy_90 : decode cX5_reckonBy 90 = .ok (.goto 7, 3) := by decide +kernel
theorem dX5_reckonBy_93 : decode cX5_reckonBy 93 = .ok (.aload_n 0, 1) := by decide +kernel
theorem dX5_reckonBy_94 : decode cX5_reckonBy 94 = .ok (.invokevirtual 156, 3) := by decide +kernel
theorem dX5_reckonBy_97 : decode cX5_reckonBy 97 = .ok (.ireturn, 1) := by decide +kernel
theorem dX5_reckonBy_98 : decode cX5_reckonBy 98 = .ok (.aload_n 0, 1) := by decide +kernel
theorem dX5_reckonBy_99 : decode cX5_reckonBy 99 = .ok (.aload_n 0, 1) := by decide +kernel
theorem dX5_reckonBy_100 : decode cX5_reckonBy 100 = .ok (.iload_n 2, 1) := by decide +kernel
theorem dX5_reckonBy_101 : decode cX5_reckonBy 101 = .ok (.iload_n 1, 1) := by decide +kernel
theorem dX5_reckonBy_102 : decode cX5_reckonBy 102 = .ok (.invokevirtual 202, 3) := by decide +kernel
theorem dX5_reckonBy_105 : decode cX5_reckonBy 105 = .ok (.invokevirtual 145, 3) := by decide +kernel
theorem dX5_reckonBy_108 : decode cX5_reckonBy 108 = .ok (.ireturn, 1) := by decide +kernel
theorem dX5_reckon_0 : decode cX5_reckon 0 = .ok (.aload_n 0, 1) := by decide +kernel
theorem dX5_reckon_1 : decode cX5_reckon 1 = .ok (.getfield 127, 3) := by decide +kernel
theorem dX5_reckon_4 : decode cX5_reckon 4 = .ok (.tableswitch 95 0 6 #[44, 48, 55, 66, 80, 84, 91], 44) := by decide +kernel
theorem dX5_reckon_48 : decode cX5_reckon 48 = .ok (.iload_n 1, 1) := by decide +kernel
theorem dX5_reckon_49 : decode cX5_reckon 49 = .ok (.iload_n 2, 1) := by decide +kernel
theorem dX5_reckon_50 : decode cX5_reckon 50 = .ok (.iadd, 1) := by decide +kernel
theorem dX5_reckon_51 : decode cX5_reckon 51 = .ok (.ireturn, 1) := by decide +kernel
theorem dX5_reckon_52 : decode cX5_reckon 52 = .ok (.iload_n 1, 1) := by decide +kernel
theorem dX5_reckon_53 : decode cX5_reckon 53 = .ok (.iload_n 2, 1) := by decide +kernel
theorem dX5_reckon_54 : decode cX5_reckon 54 = .ok (.bipush 31, 2) := by decide +kernel
theorem dX5_reckon_56 : decode cX5_reckon 56 = .ok (.iand, 1) := by decide +kernel
theorem dX5_reckon_57 : decode cX5_reckon 57 = .ok (.ishl, 1) := by decide +kernel
theorem dX5_reckon_58 : decode cX5_reckon 58 = .ok (.ireturn, 1) := by decide +kernel
theorem dX5_reckon_59 : decode cX5_reckon 59 = .ok (.iload_n 1, 1) := by decide +kernel
theorem dX5_reckon_60 : decode cX5_reckon 60 = .ok (.iload_n 2, 1) := by decide +kernel
theorem dX5_reckon_61 : decode cX5_reckon 61 = .ok (.if_icmp .ge 7, 3) := by decide +kernel
theorem dX5_reckon_64 : decode cX5_reckon 64 = .ok (.iconst 1, 1) := by decide +kernel
theorem dX5_reckon_65 : decode cX5_reckon 65 = .ok (.goto 4, 3) := by decide +kernel
theorem dX5_reckon_68 : decode cX5_reckon 68 = .ok (.iconst 0, 1) := by decide +kernel
theorem dX5_reckon_69 : decode cX5_reckon 69 = .ok (.ireturn, 1) := by decide +kernel
theorem dX5_reckon_70 : decode cX5_reckon 70 = .ok (.iload_n 1, 1) := by decide +kernel
theorem dX5_reckon_71 : decode cX5_reckon 71 = .ok (.iload_n 2, 1) := by decide +kernel
theorem dX5_reckon_72 : decode cX5_reckon 72 = .ok (.invokestatic 181, 3) := by decide +kernel
theorem dX5_reckon_75 : decode cX5_reckon 75 = .ok (.ifCond .eq 7, 3) := by decide +kernel
theorem dX5_reckon_78 : decode cX5_reckon 78 = .ok (.iconst 1, 1) := by decide +kernel
theorem dX5_reckon_79 : decode cX5_reckon 79 = .ok (.goto 4, 3) := by decide +kernel
theorem dX5_reckon_82 : decode cX5_reckon 82 = .ok (.iconst 0, 1) := by decide +kernel
theorem dX5_reckon_83 : decode cX5_reckon 83 = .ok (.ireturn, 1) := by decide +kernel
theorem dX5_reckon_84 : decode cX5_reckon 84 = .ok (.iload_n 1, 1) := by decide +kernel
theorem dX5_reckon_85 : decode cX5_reckon 85 = .ok (.iload_n 2, 1) := by decide +kernel
theorem dX5_reckon_86 : decode cX5_reckon 86 = .ok (.ixor, 1) := by decide +kernel
theorem dX5_reckon_87 : decode cX5_reckon 87 = .ok (.ireturn, 1) := by decide +kernel
theorem dX5_reckon_88 : decode cX5_reckon 88 = .ok (.iload_n 1, 1) := by decide +kernel
theorem dX5_reckon_89 : decode cX5_reckon 89 = .ok (.iload_n 2, 1) := by decide +kernel
theorem dX5_reckon_90 : decode cX5_reckon 90 = .ok (.bipush 31, 2) := by decide +kernel
theorem dX5_reckon_92 : decode cX5_reckon 92 = .ok (.iand, 1) := by decide +kernel
theorem dX5_reckon_93 : decode cX5_reckon 93 = .ok (.iushr, 1) := by decide +kernel
theorem dX5_reckon_94 : decode cX5_reckon 94 = .ok (.ireturn, 1) := by decide +kernel
theorem dX5_reckon_95 : decode cX5_reckon 95 = .ok (.iload_n 1, 1) := by decide +kernel
theorem dX5_reckon_96 : decode cX5_reckon 96 = .ok (.iload_n 2, 1) := by decide +kernel
theorem dX5_reckon_97 : decode cX5_reckon 97 = .ok (.ior, 1) := by decide +kernel
theorem dX5_reckon_98 : decode cX5_reckon 98 = .ok (.ireturn, 1) := by decide +kernel
theorem dX5_reckon_99 : decode cX5_reckon 99 = .ok (.iload_n 1, 1) := by decide +kernel
theorem dX5_reckon_100 : decode cX5_reckon 100 = .ok (.iload_n 2, 1) := by decide +kernel
theorem dX5_reckon_101 : decode cX5_reckon 101 = .ok (.iand, 1) := by decide +kernel
theorem dX5_reckon_102 : decode cX5_reckon 102 = .ok (.ireturn, 1) := by decide +kernel
theorem dX5_reckonTwo_0 : decode cX5_reckonTwo 0 = .ok (.aload_n 0, 1) := by decide +kernel
theorem dX5_reckonTwo_1 : decode cX5_reckonTwo 1 = .ok (.getfield 14, 3) := by decide +kernel
theorem dX5_reckonTwo_4 : decode cX5_reckonTwo 4 = .ok (.aload_n 0, 1) := by decide +kernel
theorem dX5_reckonTwo_5 : decode cX5_reckonTwo 5 = .ok (.getfield 130, 3) := by decide +kernel
theorem dX5_reckonTwo_8 : decode cX5_reckonTwo 8 = .ok (.iaload, 1) := by decide +kernel
theorem dX5_reckonTwo_9 : decode cX5_reckonTwo 9 = .ok (.istore_n 1, 1) := by decide +kernel
theorem dX5_reckonTwo_10 : decode cX5_reckonTwo 10 = .ok (.aload_n 0, 1) := by decide +kernel
theorem dX5_reckonTwo_11 : decode cX5_reckonTwo 11 = .ok (.getfield 14, 3) := by decide +kernel
theorem dX5_reckonTwo_14 : decode cX5_reckonTwo 14 = .ok (.aload_n 0, 1) := by decide +kernel
theorem dX5_reckonTwo_15 : decode cX5_reckonTwo 15 = .ok (.getfield 133, 3) := by decide +kernel
theorem dX5_reckonTwo_18 : decode cX5_reckonTwo 18 = .ok (.iaload, 1) := by decide +kernel
theorem dX5_reckonTwo_19 : decode cX5_reckonTwo 19 = .ok (.istore_n 2, 1) := by decide +kernel
theorem dX5_reckonTwo_20 : decode cX5_reckonTwo 20 = .ok (.aload_n 0, 1) := by decide +kernel
theorem dX5_reckonTwo_21 : decode cX5_reckonTwo 21 = .ok (.getfield 136, 3) := by decide +kernel
theorem dX5_reckonTwo_24 : decode cX5_reckonTwo 24 = .ok (.iconst 1, 1) := by decide +kernel
theorem dX5_reckonTwo_25 : decode cX5_reckonTwo 25 = .ok (.if_icmp .ne 14, 3) := by decide +kernel
theorem dX5_reckonTwo_28 : decode cX5_reckonTwo 28 = .ok (.aload_n 0, 1) := by decide +kernel
theorem dX5_reckonTwo_29 : decode cX5_reckonTwo 29 = .ok (.aload_n 0, 1) := by decide +kernel
theorem dX5_reckonTwo_30 : decode cX5_reckonTwo 30 = .ok (.iload_n 1, 1) := by decide +kernel
theorem dX5_reckonTwo_31 : decode cX5_reckonTwo 31 = .ok (.iload_n 2, 1) := by decide +kernel
theorem dX5_reckonTwo_32 : decode cX5_reckonTwo 32 = .ok (.invokevirtual 205, 3) := by decide +kernel
theorem dX5_reckonTwo_35 : decode cX5_reckonTwo 35 = .ok (.invokevirtual 145, 3) := by decide +kernel
theorem dX5_reckonTwo_38 : decode cX5_reckonTwo 38 = .ok (.ireturn, 1) := by decide +kernel
theorem dX5_reckonTwo_39 : decode cX5_reckonTwo 39 = .ok (.aload_n 0, 1) := by decide +kernel
theorem dX5_reckonTwo_40 : decode cX5_reckonTwo 40 = .ok (.getfield 136, 3) := by decide +kernel
theorem dX5_reckonTwo_43 : decode cX5_reckonTwo 43 = .ok (.ifCond .ne 14, 3) := by decide +kernel
theorem dX5_reckonTwo_46 : decode cX5_reckonTwo 46 = .ok (.aload_n 0, 1) := by decide +kernel
theorem dX5_reckonTwo_47 : decode cX5_reckonTwo 47 = .ok (.aload_n 0, 1) := by decide +kernel
theorem dX5_reckonTwo_48 : decode cX5_reckonTwo 48 = .ok (.iload_n 1, 1) := by decide +kernel
theorem dX5_reckonTwo_49 : decode cX5_reckonTwo 49 = .ok (.iload_n 2, 1) := by decide +kernel
theorem dX5_reckonTwo_50 : decode cX5_reckonTwo 50 = .ok (.invokevirtual 202, 3) := by decide +kernel
theorem dX5_reckonTwo_53 : decode cX5_reckonTwo 53 = .ok (.invokevirtual 145, 3) := by decide +kernel
theorem dX5_reckonTwo_56 : decode cX5_reckonTwo 56 = .ok (.ireturn, 1) := by decide +kernel
theorem dX5_reckonTwo_57 : decode cX5_reckonTwo 57 = .ok (.aload_n 0, 1) := by decide +kernel
theorem dX5_reckonTwo_58 : decode cX5_reckonTwo 58 = .ok (.getfield 136, 3) := by decide +kernel
theorem dX5_reckonTwo_61 : decode cX5_reckonTwo 61 = .ok (.bipush 32, 2) := by decide +kernel
theorem dX5_reckonTwo_63 : decode cX5_reckonTwo 63 = .ok (.if_icmp .ne 18, 3) := by decide +kernel
theorem dX5_reckonTwo_66 : decode cX5_reckonTwo 66 = .ok (.aload_n 0, 1) := by decide +kernel
theorem dX5_reckonTwo_67 : decode cX5_reckonTwo 67 = .ok (.getfield 127, 3) := by decide +kernel
theorem dX5_reckonTwo_70 : decode cX5_reckonTwo 70 = .ok (.ifCond .ne 11, 3) := by decide +kernel
theorem dX5_reckonTwo_73 : decode cX5_reckonTwo 73 = .ok (.aload_n 0, 1) := by decide +kernel
theorem dX5_reckonTwo_74 : decode cX5_reckonTwo 74 = .ok (.iload_n 1, 1) := by decide +kernel
theorem dX5_reckonTwo_75 : decode cX5_reckonTwo 75 = .ok (.iload_n 2, 1) := by decide +kernel
theorem dX5_reckonTwo_76 : decode cX5_reckonTwo 76 = .ok (.isub, 1) := by decide +kernel
theorem dX5_reckonTwo_77 : decode cX5_reckonTwo 77 = .ok (.invokevirtual 145, 3) := by decide +kernel
theorem dX5_reckonTwo_80 : decode cX5_reckonTwo 80 = .ok (.ireturn, 1) := by decide +kernel
theorem dX5_reckonTwo_81 : decode cX5_reckonTwo 81 = .ok (.aload_n 0, 1) := by decide +kernel
theorem dX5_reckonTwo_82 : decode cX5_reckonTwo 82 = .ok (.getfield 136, 3) := by decide +kernel
theorem dX5_reckonTwo_85 : decode cX5_reckonTwo 85 = .ok (.bipush 32, 2) := by decide +kernel
theorem dX5_reckonTwo_87 : decode cX5_reckonTwo 87 = .ok (.if_icmp .ne 24, 3) := by decide +kernel
theorem dX5_reckonTwo_90 : decode cX5_reckonTwo 90 = .ok (.aload_n 0, 1) := by decide +kernel
theorem dX5_reckonTwo_91 : decode cX5_reckonTwo 91 = .ok (.getfield 127, 3) := by decide +kernel
theorem dX5_reckonTwo_94 : decode cX5_reckonTwo 94 = .ok (.iconst 5, 1) := by decide +kernel
theorem dX5_reckonTwo_95 : decode cX5_reckonTwo 95 = .ok (.if_icmp .ne 16, 3) := by decide +kernel
theorem dX5_reckonTwo_98 : decode cX5_reckonTwo 98 = .ok (.aload_n 0, 1) := by decide +kernel
theorem dX5_reckonTwo_99 : decode cX5_reckonTwo 99 = .ok (.iload_n 1, 1) := by decide +kernel
theorem dX5_reckonTwo_100 : decode cX5_reckonTwo 100 = .ok (.iload_n 2, 1) := by decide +kernel
theorem dX5_reckonTwo_101 : decode cX5_reckonTwo 101 = .ok (.bipush 31, 2) := by decide +kernel
theorem dX5_reckonTwo_103 : decode cX5_reckonTwo 103 = .ok (.iand, 1) := by decide +kernel
theorem dX5_reckonTwo_104 : decode cX5_reckonTwo 104 = .ok (.ishr, 1) := by decide +kernel
theorem dX5_reckonTwo_105 : decode cX5_reckonTwo 105 = .ok (.invokevirtual 145, 3) := by decide +kernel
theorem dX5_reckonTwo_108 : decode cX5_reckonTwo 108 = .ok (.goto 7, 3) := by decide +kernel
theorem dX5_reckonTwo_111 : decode cX5_reckonTwo 111 = .ok (.aload_n 0, 1) := by decide +kernel
theorem dX5_reckonTwo_112 : decode cX5_reckonTwo 112 = .ok (.invokevirtual 156, 3) := by decide +kernel
theorem dX5_reckonTwo_115 : decode cX5_reckonTwo 115 = .ok (.ireturn, 1) := by decide +kernel
theorem dX5_multiplied_0 : decode cX5_multiplied 0 = .ok (.iload_n 1, 1) := by decide +kernel
theorem dX5_multiplied_1 : decode cX5_multiplied 1 = .ok (.i2l, 1) := by decide +kernel
theorem dX5_multiplied_2 : decode cX5_multiplied 2 = .ok (.ldc2_w 196, 3) := by decide +kernel
theorem dX5_multiplied_5 : decode cX5_multiplied 5 = .ok (.land, 1) := by decide +kernel
theorem dX5_multiplied_6 : decode cX5_multiplied 6 = .ok (.lstore_n 3, 1) := by decide +kernel
theorem dX5_multiplied_7 : decode cX5_multiplied 7 = .ok (.iload_n 2, 1) := by decide +kernel
theorem dX5_multiplied_8 : decode cX5_multiplied 8 = .ok (.i2l, 1) := by decide +kernel
theorem dX5_multiplied_9 : decode cX5_multiplied 9 = .ok (.ldc2_w 196, 3) := by decide +kernel
theorem dX5_multiplied_12 : decode cX5_multiplied 12 = .ok (.land, 1) := by decide +kernel
theorem dX5_multiplied_13 : decode cX5_multiplied 13 = .ok (.lstore 5, 2) := by decide +kernel
theorem dX5_multiplied_15 : decode cX5_multiplied 15 = .ok (.aload_n 0, 1) := by decide +kernel
theorem dX5_multiplied_16 : decode cX5_multiplied 16 = .ok (.getfield 127, 3) := by decide +kernel
theorem dX5_multiplied_19 : decode cX5_multiplied 19 = .ok (.tableswitch 131 0 6 #[41, 45, 55, 65, 74, 96, 110], 41) := by decide +kernel
theorem dX5_multiplied_60 : decode cX5_multiplied 60 = .ok (.iload_n 1, 1) := by decide +kernel
theorem dX5_multiplied_61 : decode cX5_multiplied 61 = .ok (.iload_n 2, 1) := by decide +kernel
theorem dX5_multiplied_62 : decode cX5_multiplied 62 = .ok (.imul, 1) := by decide +kernel
theorem dX5_multiplied_63 : decode cX5_multiplied 63 = .ok (.ireturn, 1) := by decide +kernel
theorem dX5_multiplied_64 : decode cX5_multiplied 64 = .ok (.iload_n 1, 1) := by decide +kernel
theorem dX5_multiplied_65 : decode cX5_multiplied 65 = .ok (.i2l, 1) := by decide +kernel
theorem dX5_multiplied_66 : decode cX5_multiplied 66 = .ok (.iload_n 2, 1) := by decide +kernel
theorem dX5_multiplied_67 : decode cX5_multiplied 67 = .ok (.i2l, 1) := by decide +kernel
theorem dX5_multiplied_68 : decode cX5_multiplied 68 = .ok (.lmul, 1) := by decide +kernel
theorem dX5_multiplied_69 : decode cX5_multiplied 69 = .ok (.bipush 32, 2) := by decide +kernel
theorem dX5_multiplied_71 : decode cX5_multiplied 71 = .ok (.lshr, 1) := by decide +kernel
theorem dX5_multiplied_72 : decode cX5_multiplied 72 = .ok (.l2i, 1) := by decide +kernel
theorem dX5_multiplied_73 : decode cX5_multiplied 73 = .ok (.ireturn, 1) := by decide +kernel
theorem dX5_multiplied_74 : decode cX5_multiplied 74 = .ok (.iload_n 1, 1) := by decide +kernel
theorem dX5_multiplied_75 : decode cX5_multiplied 75 = .ok (.i2l, 1) := by decide +kernel
theorem dX5_multiplied_76 : decode cX5_multiplied 76 = .ok (.lload 5, 2) := by decide +kernel
theorem dX5_multiplied_78 : decode cX5_multiplied 78 = .ok (.lmul, 1) := by decide +kernel
theorem dX5_multiplied_79 : decode cX5_multiplied 79 = .ok (.bipush 32, 2) := by decide +kernel
theorem dX5_multiplied_81 : decode cX5_multiplied 81 = .ok (.lshr, 1) := by decide +kernel
theorem dX5_multiplied_82 : decode cX5_multiplied 82 = .ok (.l2i, 1) := by decide +kernel
theorem dX5_multiplied_83 : decode cX5_multiplied 83 = .ok (.ireturn, 1) := by decide +kernel
theorem dX5_multiplied_84 : decode cX5_multiplied 84 = .ok (.lload_n 3, 1) := by decide +kernel
theorem dX5_multiplied_85 : decode cX5_multiplied 85 = .ok (.lload 5, 2) := by decide +kernel
theorem dX5_multiplied_87 : decode cX5_multiplied 87 = .ok (.lmul, 1) := by decide +kernel
theorem dX5_multiplied_88 : decode cX5_multiplied 88 = .ok (.bipush 32, 2) := by decide +kernel
theorem dX5_multiplied_90 : decode cX5_multiplied 90 = .ok (.lshr, 1) := by decide +kernel
theorem dX5_multiplied_91 : decode cX5_multiplied 91 = .ok (.l2i, 1) := by decide +kernel
theorem dX5_multiplied_92 : decode cX5_multiplied 92 = .ok (.ireturn, 1) := by decide +kernel
theorem dX5_multiplied_93 : decode cX5_multiplied 93 = .ok (.iload_n 2, 1) := by decide +kernel
theorem dX5_multiplied_94 : decode cX5_multiplied 94 = .ok (.ifCond .ne 7, 3) := by decide +kernel
theorem dX5_multiplied_97 : decode cX5_multiplied 97 = .ok (.iconst (-1), 1) := by decide +kernel
theorem dX5_multiplied_98 : decode cX5_multiplied 98 = .ok (.goto 16, 3) := by decide +kernel
theorem dX5_multiplied_101 : decode cX5_multiplied 101 = .ok (.iload_n 2, 1) := by decide +kernel
theorem dX5_multiplied_102 : decode cX5_multiplied 102 = .ok (.iconst (-1), 1) := by decide +kernel
theorem dX5_multiplied_103 : decode cX5_multiplied 103 = .ok (.if_icmp .ne 8, 3) := by decide +kernel
theorem dX5_multiplied_106 : decode cX5_multiplied 106 = .ok (.iload_n 1, 1) := by decide +kernel
theorem dX5_multiplied_107 : decode cX5_multiplied 107 = .ok (.ineg, 1) := by decide +kernel
theorem dX5_multiplied_108 : decode cX5_multiplied 108 = .ok (.goto 6, 3) := by decide +kernel
theorem dX5_multiplied_111 : decode cX5_multiplied 111 = .ok (.iload_n 1, 1) := by decide +kernel
theorem dX5_multiplied_112 : decode cX5_multiplied 112 = .ok (.iload_n 2, 1) := by decide +kernel
theorem dX5_multiplied_113 : decode cX5_multiplied 113 = .ok (.idiv, 1) := by decide +kernel
theorem dX5_multiplied_114 : decode cX5_multiplied 114 = .ok (.ireturn, 1) := by decide +kernel
theorem dX5_multiplied_115 : decode cX5_multiplied 115 = .ok (.iload_n 2, 1) := by decide +kernel
theorem dX5_multiplied_116 : decode cX5_multiplied 116 = .ok (.ifCond .ne 7, 3) := by decide +kernel
theorem dX5_multiplied_119 : decode cX5_multiplied 119 = .ok (.iconst (-1), 1) := by decide +kernel
theorem dX5_multiplied_120 : decode cX5_multiplied 120 = .ok (.goto 8, 3) := by decide +kernel
theorem dX5_multiplied_123 : decode cX5_multiplied 123 = .ok (.lload_n 3, 1) := by decide +kernel
theorem dX5_multiplied_124 : decode cX5_multiplied 124 = .ok (.lload 5, 2) := by decide +kernel
theorem dX5_multiplied_126 : decode cX5_multiplied 126 = .ok (.ldiv, 1) := by decide +kernel
theorem dX5_multiplied_127 : decode cX5_multiplied 127 = .ok (.l2i, 1) := by decide +kernel
theorem dX5_multiplied_128 : decode cX5_multiplied 128 = .ok (.ireturn, 1) := by decide +kernel
theorem dX5_multiplied_129 : decode cX5_multiplied 129 = .ok (.iload_n 2, 1) := by decide +kernel
theorem dX5_multiplied_130 : decode cX5_multiplied 130 = .ok (.ifCond .ne 7, 3) := by decide +kernel
theorem dX5_multiplied_133 : decode cX5_multiplied 133 = .ok (.iload_n 1, 1) := by decide +kernel
theorem dX5_multiplied_134 : decode cX5_multiplied 134 = .ok (.goto 15, 3) := by decide +kernel
theorem dX5_multiplied_137 : decode cX5_multiplied 137 = .ok (.iload_n 2, 1) := by decide +kernel
theorem dX5_multiplied_138 : decode cX5_multiplied 138 = .ok (.iconst (-1), 1) := by decide +kernel
theorem dX5_multiplied_139 : decode cX5_multiplied 139 = .ok (.if_icmp .ne 7, 3) := by decide +kernel
theorem dX5_multiplied_142 : decode cX5_multiplied 142 = .ok (.iconst 0, 1) := by decide +kernel
theorem dX5_multiplied_143 : decode cX5_multiplied 143 = .ok (.goto 6, 3) := by decide +kernel
theorem dX5_multiplied_146 : decode cX5_multiplied 146 = .ok (.iload_n 1, 1) := by decide +kernel
theorem dX5_multiplied_147 : decode cX5_multiplied 147 = .ok (.iload_n 2, 1) := by decide +kernel
theorem dX5_multiplied_148 : decode cX5_multiplied 148 = .ok (.irem, 1) := by decide +kernel
theorem dX5_multiplied_149 : decode cX5_multiplied 149 = .ok (.ireturn, 1) := by decide +kernel
theorem dX5_multiplied_150 : decode cX5_multiplied 150 = .ok (.iload_n 2, 1) := by decide +kernel
theorem dX5_multiplied_151 : decode cX5_multiplied 151 = .ok (.ifCond .ne 7, 3) := by decide +kernel
theorem dX5_multiplied_154 : decode cX5_multiplied 154 = .ok (.iload_n 1, 1) := by decide +kernel
theorem dX5_multiplied_155 : decode cX5_multiplied 155 = .ok (.goto 8, 3) := by decide +kernel
theorem dX5_multiplied_158 : decode cX5_multiplied 158 = .ok (.lload_n 3, 1) := by decide +kernel
theorem dX5_multiplied_159 : decode cX5_multiplied 159 = .ok (.lload 5, 2) := by decide +kernel
theorem dX5_multiplied_161 : decode cX5_multiplied 161 = .ok (.lrem, 1) := by decide +kernel
theorem dX5_multiplied_162 : decode cX5_multiplied 162 = .ok (.l2i, 1) := by decide +kernel
theorem dX5_multiplied_163 : decode cX5_multiplied 163 = .ok (.ireturn, 1) := by decide +kernel
theorem dX5_system_0 : decode cX5_system 0 = .ok (.aload_n 0, 1) := by decide +kernel
theorem dX5_system_1 : decode cX5_system 1 = .ok (.getfield 118, 3) := by decide +kernel
theorem dX5_system_4 : decode cX5_system 4 = .ok (.lookupswitch 92 #[(115, 44), (1048691, 52), (273678451, 85), (807403635, 62)], 44) := by decide +kernel
theorem dX5_system_48 : decode cX5_system 48 = .ok (.aload_n 0, 1) := by decide +kernel
theorem dX5_system_49 : decode cX5_system 49 = .ok (.bipush 11, 2) := by decide +kernel
theorem dX5_system_51 : decode cX5_system 51 = .ok (.iconst 0, 1) := by decide +kernel
theorem dX5_system_52 : decode cX5_system 52 = .ok (.invokevirtual 104, 3) := by decide +kernel
theorem dX5_system_55 : decode cX5_system 55 = .ok (.ireturn, 1) := by decide +kernel
theorem dX5_system_56 : decode cX5_system 56 = .ok (.aload_n 0, 1) := by decide +kernel
theorem dX5_system_57 : decode cX5_system 57 = .ok (.iconst 3, 1) := by decide +kernel
theorem dX5_system_58 : decode cX5_system 58 = .ok (.aload_n 0, 1) := by decide +kernel
theorem dX5_system_59 : decode cX5_system 59 = .ok (.getfield 30, 3) := by decide +kernel
theorem dX5_system_62 : decode cX5_system 62 = .ok (.invokevirtual 104, 3) := by decide +kernel
theorem dX5_system_65 : decode cX5_system 65 = .ok (.ireturn, 1) := by decide +kernel
theorem dX5_system_66 : decode cX5_system 66 = .ok (.aload_n 0, 1) := by decide +kernel
theorem dX5_system_67 : decode cX5_system 67 = .ok (.aload_n 0, 1) := by decide +kernel
theorem dX5_system_68 : decode cX5_system 68 = .ok (.getfield 49, 3) := by decide +kernel
theorem dX5_system_71 : decode cX5_system 71 = .ok (.putfield 139, 3) := by decide +kernel
theorem dX5_system_74 : decode cX5_system 74 = .ok (.aload_n 0, 1) := by decide +kernel
theorem dX5_system_75 : decode cX5_system 75 = .ok (.aload_n 0, 1) := by decide +kernel
theorem dX5_system_76 : decode cX5_system 76 = .ok (.getfield 37, 3) := by decide +kernel
theorem dX5_system_79 : decode cX5_system 79 = .ok (.putfield 33, 3) := by decide +kernel
theorem dX5_system_82 : decode cX5_system 82 = .ok (.aload_n 0, 1) := by decide +kernel
theorem dX5_system_83 : decode cX5_system 83 = .ok (.iconst 1, 1) := by decide +kernel
theorem dX5_system_84 : decode cX5_system 84 = .ok (.putfield 37, 3) := by decide +kernel
theorem dX5_system_87 : decode cX5_system 87 = .ok (.iconst (-1), 1) := by decide +kernel
theorem dX5_system_88 : decode cX5_system 88 = .ok (.ireturn, 1) := by decide +kernel
theorem dX5_system_89 : decode cX5_system 89 = .ok (.aload_n 0, 1) := by decide +kernel
theorem dX5_system_90 : decode cX5_system 90 = .ok (.iconst 1, 1) := by decide +kernel
theorem dX5_system_91 : decode cX5_system 91 = .ok (.putfield 73, 3) := by decide +kernel
theorem dX5_system_94 : decode cX5_system 94 = .ok (.iconst (-1), 1) := by decide +kernel
theorem dX5_system_95 : decode cX5_system 95 = .ok (.ireturn, 1) := by decide +kernel
theorem dX5_system_96 : decode cX5_system 96 = .ok (.aload_n 0, 1) := by decide +kernel
theorem dX5_system_97 : decode cX5_system 97 = .ok (.invokevirtual 156, 3) := by decide +kernel
theorem dX5_system_100 : decode cX5_system 100 = .ok (.ireturn, 1) := by decide +kernel
theorem dX5_control_0 : decode cX5_control 0 = .ok (.aload_n 0, 1) := by decide +kernel
theorem dX5_control_1 : decode cX5_control 1 = .ok (.getfield 118, 3) := by decide +kernel
theorem dX5_control_4 : decode cX5_control 4 = .ok (.bipush 20, 2) := by decide +kernel
theorem dX5_control_6 : decode cX5_control 6 = .ok (.ishr, 1) := by decide +kernel
theorem dX5_control_7 : decode cX5_control 7 = .ok (.sipush 4095, 3) := by decide +kernel
theorem dX5_control_10 : decode cX5_control 10 = .ok (.iand, 1) := by decide +kernel
theorem dX5_control_11 : decode cX5_control 11 = .ok (.istore_n 1, 1) := by decide +kernel
theorem dX5_control_12 : decode cX5_control 12 = .ok (.aload_n 0, 1) := by decide +kernel
theorem dX5_control_13 : decode cX5_control 13 = .ok (.getfield 127, 3) := by decide +kernel
theorem dX5_control_16 : decode cX5_control 16 = .ok (.iconst 3, 1) := by decide +kernel
theorem dX5_control_17 : decode cX5_control 17 = .ok (.iand, 1) := by decide +kernel
theorem dX5_control_18 : decode cX5_control 18 = .ok (.istore_n 2, 1) := by decide +kernel
theorem dX5_control_19 : decode cX5_control 19 = .ok (.iload_n 2, 1) := by decide +kernel
theorem dX5_control_20 : decode cX5_control 20 = .ok (.iconst 1, 1) := by decide +kernel
theorem dX5_control_21 : decode cX5_control 21 = .ok (.if_icmp .eq 10, 3) := by decide +kernel
theorem dX5_control_24 : decode cX5_control 24 = .ok (.aload_n 0, 1) := by decide +kernel
theorem dX5_control_25 : decode cX5_control 25 = .ok (.getfield 130, 3) := by decide +kernel
theorem dX5_control_28 : decode cX5_control 28 = .ok (.ifCond .eq 7, 3) := by decide +kernel
theorem dX5_control_31 : decode cX5_control 31 = .ok (.iconst 1, 1) := by decide +kernel
theorem dX5_control_32 : decode cX5_control 32 = .ok (.goto 4, 3) := by decide +kernel
theorem dX5_control_35 : decode cX5_control 35 = .ok (.iconst 0, 1) := by decide +kernel
theorem dX5_control_36 : decode cX5_control 36 = .ok (.istore_n 3, 1) := by decide +kernel
theorem dX5_control_37 : decode cX5_control 37 = .ok (.aload_n 0, 1) := by decide +kernel
theorem dX5_control_38 : decode cX5_control 38 = .ok (.getfield 127, 3) := by decide +kernel
theorem dX5_control_41 : decode cX5_control 41 = .ok (.iconst 4, 1) := by decide +kernel
theorem dX5_control_42 : decode cX5_control 42 = .ok (.if_icmp .eq 21, 3) := by decide +kernel
theorem dX5_control_45 : decode cX5_control 45 = .ok (.iload_n 1, 1) := by decide +kernel
theorem dX5_control_46 : decode cX5_control 46 = .ok (.invokestatic 208, 3) := by decide +kernel
theorem dX5_control_49 : decode cX5_control 49 = .ok (.ifCond .eq 14, 3) := by decide +kernel
theorem dX5_control_52 : decode cX5_control 52 = .ok (.iload_n 3, 1) := by decide +kernel
theorem dX5_control_53 : decode cX5_control 53 = .ok (.ifCond .eq 15, 3) := by decide +kernel
theorem dX5_control_56 : decode cX5_control 56 = .ok (.iload_n 1, 1) := by decide +kernel
theorem dX5_control_57 : decode cX5_control 57 = .ok (.sipush 3072, 3) := by decide +kernel
theorem dX5_control_60 : decode cX5_control 60 = .ok (.if_icmp .lt 8, 3) := by decide +kernel
theorem dX5_control_63 : decode cX5_control 63 = .ok (.aload_n 0, 1) := by decide +kernel
theorem dX5_control_64 : decode cX5_control 64 = .ok (.invokevirtual 156, 3) := by decide +kernel
theorem dX5_control_67 : decode cX5_control 67 = .ok (.ireturn, 1) := by decide +kernel
theorem dX5_control_68 : decode cX5_control 68 = .ok (.aload_n 0, 1) := by decide +kernel
theorem dX5_control_69 : decode cX5_control 69 = .ok (.iload_n 1, 1) := by decide +kernel
theorem dX5_control_70 : decode cX5_control 70 = .ok (.invokevirtual 99, 3) := by decide +kernel
theorem dX5_control_73 : decode cX5_control 73 = .ok (.istore 4, 2) := by decide +kernel
theorem dX5_control_75 : decode cX5_control 75 = .ok (.aload_n 0, 1) := by decide +kernel
theorem dX5_control_76 : decode cX5_control 76 = .ok (.getfield 127, 3) := by decide +kernel
theorem dX5_control_79 : decode cX5_control 79 = .ok (.iconst 4, 1) := by decide +kernel
theorem dX5_control_80 : decode cX5_control 80 = .ok (.if_icmp .ge 15, 3) := by decide +kernel
theorem dX5_control_83 : decode cX5_control 83 = .ok (.aload_n 0, 1) := by decide +kernel
theorem dX5_control_84 : decode cX5_control 84 = .ok (.getfield 14, 3) := by decide +kernel
theorem dX5_control_87 : decode cX5_control 87 = .ok (.aload_n 0, 1) := by decide +kernel
theorem dX5_control_88 : decode cX5_control 88 = .ok (.getfield 130, 3) := by decide +kernel
theorem dX5_control_91 : decode cX5_control 91 = .ok (.iaload, 1) := by decide +kernel
theorem dX5_control_92 : decode cX5_control 92 = .ok (.goto 7, 3) := by decide +kernel
theorem dX5_control_95 : decode cX5_control 95 = .ok (.aload_n 0, 1) := by decide +kernel
theorem dX5_control_96 : decode cX5_control 96 = .ok (.getfield 130, 3) := by decide +kernel
theorem dX5_control_99 : decode cX5_control 99 = .ok (.istore 5, 2) := by decide +kernel
theorem dX5_control_101 : decode cX5_control 101 = .ok (.iload_n 3, 1) := by decide +kernel
theorem dX5_control_102 : decode cX5_control 102 = .ok (.ifCond .eq 38, 3) := by decide +kernel
theorem dX5_control_105 : decode cX5_control 105 = .ok (.aload_n 0, 1) := by decide +kernel
theorem dX5_control_106 : decode cX5_control 106 = .ok (.iload_n 1, 1) := by decide +kernel
theorem dX5_control_107 : decode cX5_control 107 = .ok (.iload_n 2, 1) := by decide +kernel
theorem dX5_control_108 : decode cX5_control 108 = .ok (.iconst 1, 1) := by decide +kernel
theorem dX5_control_109 : decode cX5_control 109 = .ok (.if_icmp .ne 8, 3) := by decide +kernel
theorem dX5_control_112 : decode cX5_control 112 = .ok (.iload 5, 2) := by decide +kernel
theorem dX5_control_114 : decode cX5_control 114 = .ok (.goto 23, 3) := by decide +kernel
theorem dX5_control_117 : decode cX5_control 117 = .ok (.iload_n 2, 1) := by decide +kernel
theorem dX5_control_118 : decode cX5_control 118 = .ok (.iconst 2, 1) := by decide +kernel
theorem dX5_control_119 : decode cX5_control 119 = .ok (.if_icmp .ne 11, 3) := by decide +kernel
theorem dX5_control_122 : decode cX5_control 122 = .ok (.iload 4, 2) := by decide +kernel
theorem dX5_control_124 : decode cX5_control 124 = .ok (.iload 5, 2) := by decide +kernel
theorem dX5_control_126 : decode cX5_control 126 = .ok (.ior, 1) := by decide +kernel
theorem dX5_control_127 : decode cX5_control 127 = .ok (.goto 10, 3) := by decide +kernel
theorem dX5_control_130 : decode cX5_control 130 = .ok (.iload 4, 2) := by decide +kernel
theorem dX5_control_132 : decode cX5_control 132 = .ok (.iload 5, 2) := by decide +kernel
theorem dX5_control_134 : decode cX5_control 134 = .ok (.iconst (-1), 1) := by decide +kernel
theorem dX5_control_135 : decode cX5_control 135 = .ok (.ixor, 1) := by decide +kernel
theorem dX5_control_136 : decode cX5_control 136 = .ok (.iand, 1) := by decide +kernel
theorem dX5_control_137 : decode cX5_control 137 = .ok (.invokevirtual 211, 3) := by decide +kernel
theorem dX5_control_140 : decode cX5_control 140 = .ok (.aload_n 0, 1) := by decide +kernel
theorem dX5_control_141 : decode cX5_control 141 = .ok (.iload 4, 2) := by decide +kernel
theorem dX5_control_143 : decode cX5_control 143 = .ok (.invokevirtual 145, 3) := by decide +kernel
theorem dX5_control_146 : decode cX5_control 146 = .ok (.ireturn, 1) := by decide +kernel
theorem dX5_reg_0 : decode cX5_reg 0 = .ok (.aload_n 0, 1) := by decide +kernel
theorem dX5_reg_1 : decode cX5_reg 1 = .ok (.getfield 14, 3) := by decide +kernel
theorem dX5_reg_4 : decode cX5_reg 4 = .ok (.iload_n 1, 1) := by decide +kernel
theorem dX5_reg_5 : decode cX5_reg 5 = .ok (.bipush 31, 2) := by decide +kernel
theorem dX5_reg_7 : decode cX5_reg 7 = .ok (.iand, 1) := by decide +kernel
theorem dX5_reg_8 : decode cX5_reg 8 = .ok (.iaload, 1) := by decide +kernel
theorem dX5_reg_9 : decode cX5_reg 9 = .ok (.ireturn, 1) := by decide +kernel
theorem dX5_pc_0 : decode cX5_pc 0 = .ok (.aload_n 0, 1) := by decide +kernel
theorem dX5_pc_1 : decode cX5_pc 1 = .ok (.getfield 30, 3) := by decide +kernel
theorem dX5_pc_4 : decode cX5_pc 4 = .ok (.ireturn, 1) := by decide +kernel
theorem dX5_told_0 : decode cX5_told 0 = .ok (.iload_n 1, 1) := by decide +kernel
theorem dX5_told_1 : decode cX5_told 1 = .ok (.tableswitch 69 0 4 #[35, 40, 45, 50, 63], 35) := by decide +kernel
theorem dX5_told_36 : decode cX5_told 36 = .ok (.aload_n 0, 1) := by decide +kernel
theorem dX5_told_37 : decode cX5_told 37 = .ok (.getfield 58, 3) := by decide +kernel
theorem dX5_told_40 : decode cX5_told 40 = .ok (.lreturn, 1) := by decide +kernel
theorem dX5_told_41 : decode cX5_told 41 = .ok (.aload_n 0, 1) := by decide +kernel
theorem dX5_told_42 : decode cX5_told 42 = .ok (.getfield 64, 3) := by decide +kernel
theorem dX5_told_45 : decode cX5_told 45 = .ok (.lreturn, 1) := by decide +kernel
theorem dX5_told_46 : decode cX5_told 46 = .ok (.aload_n 0, 1) := by decide +kernel
theorem dX5_told_47 : decode cX5_told 47 = .ok (.getfield 70, 3) := by decide +kernel
theorem dX5_told_50 : decode cX5_told 50 = .ok (.lreturn, 1) := by decide +kernel
theorem dX5_told_51 : decode cX5_told 51 = .ok (.aload_n 0, 1) := by decide +kernel
theorem dX5_told_52 : decode cX5_told 52 = .ok (.getfield 73, 3) := by decide +kernel
theorem dX5_told_55 : decode cX5_told 55 = .ok (.ifCond .eq 7, 3) := by decide +kernel
theorem dX5_told_58 : decode cX5_told 58 = .ok (.lconst 1, 1) := by decide +kernel
theorem dX5_told_59 : decode cX5_told 59 = .ok (.goto 4, 3) := by decide +kernel
theorem dX5_told_62 : decode cX5_told 62 = .ok (.lconst 0, 1) := by decide +kernel
theorem dX5_told_63 : decode cX5_told 63 = .ok (.lreturn, 1) := by decide +kernel
theorem dX5_told_64 : decode cX5_told 64 = .ok (.aload_n 0, 1) := by decide +kernel
theorem dX5_told_65 : decode cX5_told 65 = .ok (.getfield 76, 3) := by decide +kernel
theorem dX5_told_68 : decode cX5_told 68 = .ok (.i2l, 1) := by decide +kernel
theorem dX5_told_69 : decode cX5_told 69 = .ok (.lreturn, 1) := by decide +kernel
theorem dX5_told_70 : decode cX5_told 70 = .ok (.lconst 0, 1) := by decide +kernel
theorem dX5_told_71 : decode cX5_told 71 = .ok (.lreturn, 1) := by decide +kernel
theorem dX5_outSize_0 : decode cX5_outSize 0 = .ok (.aload_n 0, 1) := by decide +kernel
theorem dX5_outSize_1 : decode cX5_outSize 1 = .ok (.getfield 67, 3) := by decide +kernel
theorem dX5_outSize_4 : decode cX5_outSize 4 = .ok (.ireturn, 1) := by decide +kernel
theorem dX5_out_0 : decode cX5_out 0 = .ok (.iload_n 1, 1) := by decide +kernel
theorem dX5_out_1 : decode cX5_out 1 = .ok (.ifCond .lt 20, 3) := by decide +kernel
theorem dX5_out_4 : decode cX5_out 4 = .ok (.iload_n 1, 1) := by decide +kernel
theorem dX5_out_5 : decode cX5_out 5 = .ok (.aload_n 0, 1) := by decide +kernel
theorem dX5_out_6 : decode cX5_out 6 = .ok (.getfield 67, 3) := by decide +kernel
theorem dX5_out_9 : decode cX5_out 9 = .ok (.if_icmp .ge 12, 3) := by decide +kernel
theorem dX5_out_12 : decode cX5_out 12 = .ok (.aload_n 0, 1) := by decide +kernel
theorem dX5_out_13 : decode cX5_out 13 = .ok (.getfield 17, 3) := by decide +kernel
theorem dX5_out_16 : decode cX5_out 16 = .ok (.iload_n 1, 1) := by decide +kernel
theorem dX5_out_17 : decode cX5_out 17 = .ok (.iaload, 1) := by decide +kernel
theorem dX5_out_18 : decode cX5_out 18 = .ok (.goto 4, 3) := by decide +kernel
theorem dX5_out_21 : decode cX5_out 21 = .ok (.iconst (-1), 1) := by decide +kernel
theorem dX5_out_22 : decode cX5_out 22 = .ok (.ireturn, 1) := by decide +kernel
theorem dJ6_compare_7cf53_0 : decode cJ6_compare_7cf53 0 = .ok (.iload_n 0, 1) := by decide +kernel
theorem dJ6_compare_7cf53_1 : decode cJ6_compare_7cf53 1 = .ok (.iload_n 1, 1) := by decide +kernel
theorem dJ6_compare_7cf53_2 : decode cJ6_compare_7cf53 2 = .ok (.if_icmp .ge 7, 3) := by decide +kernel
theorem dJ6_compare_7cf53_5 : decode cJ6_compare_7cf53 5 = .ok (.iconst (-1), 1) := by decide +kernel
theorem dJ6_compare_7cf53_6 : decode cJ6_compare_7cf53 6 = .ok (.goto 13, 3) := by decide +kernel
theorem dJ6_compare_7cf53_9 : decode cJ6_compare_7cf53 9 = .ok (.iload_n 0, 1) := by decide +kernel
theorem dJ6_compare_7cf53_10 : decode cJ6_compare_7cf53 10 = .ok (.iload_n 1, 1) := by decide +kernel
theorem dJ6_compare_7cf53_11 : decode cJ6_compare_7cf53 11 = .ok (.if_icmp .ne 7, 3) := by decide +kernel
theorem dJ6_compare_7cf53_14 : decode cJ6_compare_7cf53 14 = .ok (.iconst 0, 1) := by decide +kernel
theorem dJ6_compare_7cf53_15 : decode cJ6_compare_7cf53 15 = .ok (.goto 4, 3) := by decide +kernel
theorem dJ6_compare_7cf53_18 : decode cJ6_compare_7cf53 18 = .ok (.iconst 1, 1) := by decide +kernel
theorem dJ6_compare_7cf53_19 : decode cJ6_compare_7cf53 19 = .ok (.ireturn, 1) := by decide +kernel
theorem dJ6_compareUnsigned_7cf53_0 : decode cJ6_compareUnsigned_7cf53 0 = .ok (.iload_n 0, 1) := by decide +kernel
theorem dJ6_compareUnsigned_7cf53_1 : decode cJ6_compareUnsigned_7cf53 1 = .ok (.ldc 127, 2) := by decide +kernel
theorem dJ6_compareUnsigned_7cf53_3 : decode cJ6_compareUnsigned_7cf53 3 = .ok (.iadd, 1) := by decide +kernel
theorem dJ6_compareUnsigned_7cf53_4 : decode cJ6_compareUnsigned_7cf53 4 = .ok (.iload_n 1, 1) := by decide +kernel
theorem dJ6_compareUnsigned_7cf53_5 : decode cJ6_compareUnsigned_7cf53 5 = .ok (.ldc 127, 2) := by decide +kernel
theorem dJ6_compareUnsigned_7cf53_7 : decode cJ6_compareUnsigned_7cf53 7 = .ok (.iadd, 1) := by decide +kernel
theorem dJ6_compareUnsigned_7cf53_8 : decode cJ6_compareUnsigned_7cf53 8 = .ok (.invokestatic 259, 3) := by decide +kernel
theorem dJ6_compareUnsigned_7cf53_11 : decode cJ6_compareUnsigned_7cf53 11 = .ok (.ireturn, 1) := by decide +kernel
theorem dJ13_compare_74951_0 : decode cJ13_compare_74951 0 = .ok (.lload_n 0, 1) := by decide +kernel
theorem dJ13_compare_74951_1 : decode cJ13_compare_74951 1 = .ok (.lload_n 2, 1) := by decide +kernel
theorem dJ13_compare_74951_2 : decode cJ13_compare_74951 2 = .ok (.lcmp, 1) := by decide +kernel
theorem dJ13_compare_74951_3 : decode cJ13_compare_74951 3 = .ok (.ifCond .ge 7, 3) := by decide +kernel
theorem dJ13_compare_74951_6 : decode cJ13_compare_74951 6 = .ok (.iconst (-1), 1) := by decide +kernel
theorem dJ13_compare_74951_7 : decode cJ13_compare_74951 7 = .ok (.goto 14, 3) := by decide +kernel
theorem dJ13_compare_74951_10 : decode cJ13_compare_74951 10 = .ok (.lload_n 0, 1) := by decide +kernel
theorem dJ13_compare_74951_11 : decode cJ13_compare_74951 11 = .ok (.lload_n 2, 1) := by decide +kernel
theorem dJ13_compare_74951_12 : decode cJ13_compare_74951 12 = .ok (.lcmp, 1) := by decide +kernel
theorem dJ13_compare_74951_13 : decode cJ13_compare_74951 13 = .ok (.ifCond .ne 7, 3) := by decide +kernel
theorem dJ13_compare_74951_16 : decode cJ13_compare_74951 16 = .ok (.iconst 0, 1) := by decide +kernel
theorem dJ13_compare_74951_17 : decode cJ13_compare_74951 17 = .ok (.goto 4, 3) := by decide +kernel
theorem dJ13_compare_74951_20 : decode cJ13_compare_74951 20 = .ok (.iconst 1, 1) := by decide +kernel
theorem dJ13_compare_74951_21 : decode cJ13_compare_74951 21 = .ok (.ireturn, 1) := by decide +kernel
theorem dJ13_compareUnsigned_74951_0 : decode cJ13_compareUnsigned_74951 0 = .ok (.lload_n 0, 1) := by decide +kernel
theorem dJ13_compareUnsigned_74951_1 : decode cJ13_compareUnsigned_74951 1 = .ok (.ldc2_w 168, 3) := by decide +kernel
theorem dJ13_compareUnsigned_74951_4 : decode cJ13_compareUnsigned_74951 4 = .ok (.ladd, 1) := by decide +kernel
theorem dJ13_compareUnsigned_74951_5 : decode cJ13_compareUnsigned_74951 5 = .ok (.lload_n 2, 1) := by decide +kernel
theorem dJ13_compareUnsigned_74951_6 : decode cJ13_compareUnsigned_74951 6 = .ok (.ldc2_w 168, 3) := by decide +kernel
theorem dJ13_compareUnsigned_74951_9 : decode cJ13_compareUnsigned_74951 9 = .ok (.ladd, 1) := by decide +kernel
theorem dJ13_compareUnsigned_74951_10 : decode cJ13_compareUnsigned_74951 10 = .ok (.invokestatic 302, 3) := by decide +kernel
theorem dJ13_compareUnsigned_74951_13 : decode cJ13_compareUnsigned_74951 13 = .ok (.ireturn, 1) := by decide +kernel
theorem dJ9_max_7cf53_0 : decode cJ9_max_7cf53 0 = .ok (.iload_n 0, 1) := by decide +kernel
theorem dJ9_max_7cf53_1 : decode cJ9_max_7cf53 1 = .ok (.iload_n 1, 1) := by decide +kernel
theorem dJ9_max_7cf53_2 : decode cJ9_max_7cf53 2 = .ok (.if_icmp .lt 7, 3) := by decide +kernel
theorem dJ9_max_7cf53_5 : decode cJ9_max_7cf53 5 = .ok (.iload_n 0, 1) := by decide +kernel
theorem dJ9_max_7cf53_6 : decode cJ9_max_7cf53 6 = .ok (.goto 4, 3) := by decide +kernel
theorem dJ9_max_7cf53_9 : decode cJ9_max_7cf53 9 = .ok (.iload_n 1, 1) := by decide +kernel
theorem dJ9_max_7cf53_10 : decode cJ9_max_7cf53 10 = .ok (.ireturn, 1) := by decide +kernel
theorem dJ9_min_7cf53_0 : decode cJ9_min_7cf53 0 = .ok (.iload_n 0, 1) := by decide +kernel
theorem dJ9_min_7cf53_1 : decode cJ9_min_7cf53 1 = .ok (.iload_n 1, 1) := by decide +kernel
theorem dJ9_min_7cf53_2 : decode cJ9_min_7cf53 2 = .ok (.if_icmp .gt 7, 3) := by decide +kernel
theorem dJ9_min_7cf53_5 : decode cJ9_min_7cf53 5 = .ok (.iload_n 0, 1) := by decide +kernel
theorem dJ9_min_7cf53_6 : decode cJ9_min_7cf53 6 = .ok (.goto 4, 3) := by decide +kernel
theorem dJ9_min_7cf53_9 : decode cJ9_min_7cf53 9 = .ok (.iload_n 1, 1) := by decide +kernel
theorem dJ9_min_7cf53_10 : decode cJ9_min_7cf53 10 = .ok (.ireturn, 1) := by decide +kernel
theorem dL_cell_0 : decode cL_cell 0 = .ok (.iload_n 1, 1) := by decide +kernel
theorem dL_cell_1 : decode cL_cell 1 = .ok (.aload_n 0, 1) := by decide +kernel
theorem dL_cell_2 : decode cL_cell 2 = .ok (.arraylength, 1) := by decide +kernel
theorem dL_cell_3 : decode cL_cell 3 = .ok (.if_icmp .ge 9, 3) := by decide +kernel
theorem dL_cell_6 : decode cL_cell 6 = .ok (.aload_n 0, 1) := by decide +kernel
theorem dL_cell_7 : decode cL_cell 7 = .ok (.iload_n 1, 1) := by decide +kernel
theorem dL_cell_8 : decode cL_cell 8 = .ok (.iaload, 1) := by decide +kernel
theorem dL_cell_9 : decode cL_cell 9 = .ok (.goto 4, 3) := by decide +kernel
theorem dL_cell_12 : decode cL_cell 12 = .ok (.iconst 0, 1) := by decide +kernel
theorem dL_cell_13 : decode cL_cell 13 = .ok (.ireturn, 1) := by decide +kernel
theorem dL_law_0 : decode cL_law 0 = .ok (.new 7, 3) := by decide +kernel
theorem dL_law_3 : decode cL_law 3 = .ok (.dup, 1) := by decide +kernel
theorem dL_law_4 : decode cL_law 4 = .ok (.aload_n 0, 1) := by decide +kernel
theorem dL_law_5 : decode cL_law 5 = .ok (.iconst 0, 1) := by decide +kernel
theorem dL_law_6 : decode cL_law 6 = .ok (.invokestatic 9, 3) := by decide +kernel
theorem dL_law_9 : decode cL_law 9 = .ok (.aload_n 0, 1) := by decide +kernel
theorem dL_law_10 : decode cL_law 10 = .ok (.iconst 1, 1) := by decide +kernel
theorem dL_law_11 : decode cL_law 11 = .ok (.invokestatic 9, 3) := by decide +kernel
theorem dL_law_14 : decode cL_law 14 = .ok (.invokespecial 15, 3) := by decide +kernel
theorem dL_law_17 : decode cL_law 17 = .ok (.astore_n 1, 1) := by decide +kernel
theorem dL_law_18 : decode cL_law 18 = .ok (.new 18, 3) := by decide +kernel
theorem dL_law_21 : decode cL_law 21 = .ok (.dup, 1) := by decide +kernel
theorem dL_law_22 : decode cL_law 22 = .ok (.aload_n 0, 1) := by decide +kernel
theorem dL_law_23 : decode cL_law 23 = .ok (.iconst 0, 1) := by decide +kernel
theorem dL_law_24 : decode cL_law 24 = .ok (.invokestatic 9, 3) := by decide +kernel
theorem dL_law_27 : decode cL_law 27 = .ok (.aload_n 0, 1) := by decide +kernel
theorem dL_law_28 : decode cL_law 28 = .ok (.iconst 1, 1) := by decide +kernel
theorem dL_law_29 : decode cL_law 29 = .ok (.invokestatic 9, 3) := by decide +kernel
theorem dL_law_32 : decode cL_law 32 = .ok (.invokespecial 20, 3) := by decide +kernel
theorem dL_law_35 : decode cL_law 35 = .ok (.astore_n 2, 1) := by decide +kernel
theorem dL_law_36 : decode cL_law 36 = .ok (.iconst 2, 1) := by decide +kernel
theorem dL_law_37 : decode cL_law 37 = .ok (.istore_n 3, 1) := by decide +kernel
theorem dL_law_38 : decode cL_law 38 = .ok (.iload_n 3, 1) := by decide +kernel
theorem dL_law_39 : decode cL_law 39 = .ok (.aload_n 0, 1) := by decide +kernel
theorem dL_law_40 : decode cL_law 40 = .ok (.arraylength, 1) := by decide +kernel
theorem dL_law_41 : decode cL_law 41 = .ok (.iconst 3, 1) := by decide +kernel
theorem dL_law_42 : decode cL_law 42 = .ok (.isub, 1) := by decide +kernel
theorem dL_law_43 : decode cL_law 43 = .ok (.if_icmp .gt 349, 3) := by decide +kernel
theorem dL_law_46 : decode cL_law 46 = .ok (.aload_n 0, 1) := by decide +kernel
theorem dL_law_47 : decode cL_law 47 = .ok (.iload_n 3, 1) := by decide +kernel
theorem dL_law_48 : decode cL_law 48 = .ok (.iaload, 1) := by decide +kernel
theorem dL_law_49 : decode cL_law 49 = .ok (.bipush 15, 2) := by decide +kernel
theorem dL_law_51 : decode cL_law 51 = .ok (.iand, 1) := by decide +kernel
theorem dL_law_52 : decode cL_law 52 = .ok (.tableswitch 334 0 12 #[68, 79, 112, 145, 168, 181, 204, 215, 238, 251, 274, 298, 311], 68) := by decide +kernel
theorem dL_law_120 : decode cL_law 120 = .ok (.aload_n 1, 1) := by decide +kernel
theorem dL_law_121 : decode cL_law 121 = .ok (.invokevirtual 21, 3) := by decide +kernel
theorem dL_law_124 : decode cL_law 124 = .ok (.aload_n 2, 1) := by decide +kernel
theorem dL_law_125 : decode cL_law 125 = .ok (.invokevirtual 24, 3) := by decide +kernel
theorem dL_law_128 : decode cL_law 128 = .ok (.goto 258, 3) := by decide +kernel
theorem dL_law_131 : decode cL_law 131 = .ok (.aload_n 1, 1) := by decide +kernel
theorem dL_law_132 : decode cL_law 132 = .ok (.aload_n 0, 1) := by decide +kernel
theorem dL_law_133 : decode cL_law 133 = .ok (.iload_n 3, 1) := by decide +kernel
theorem dL_law_134 : decode cL_law 134 = .ok (.iconst 1, 1) := by decide +kernel
theorem dL_law_135 : decode cL_law 135 = .ok (.iadd, 1) := by decide +kernel
theorem dL_law_136 : decode cL_law 136 = .ok (.iaload, 1) := by decide +kernel
theorem dL_law_137 : decode cL_law 137 = .ok (.aload_n 0, 1) := by decide +kernel
theorem dL_law_138 : decode cL_law 138 = .ok (.iload_n 3, 1) := by decide +kernel
theorem dL_law_139 : decode cL_law 139 = .ok (.iconst 2, 1) := by decide +kernel
theorem dL_law_140 : decode cL_law 140 = .ok (.iadd, 1) := by decide +kernel
theorem dL_law_141 : decode cL_law 141 = .ok (.iaload, 1) := by decide +kernel
theorem dL_law_142 : decode cL_law 142 = .ok (.invokevirtual 25, 3) := by decide +kernel
theorem dL_law_145 : decode cL_law 145 = .ok (.aload_n 2, 1) := by decide +kernel
theorem dL_law_146 : decode cL_law 146 = .ok (.aload_n 0, 1) := by decide +kernel
theorem dL_law_147 : decode cL_law 147 = .ok (.iload_n 3, 1) := by decide +kernel
theorem dL_law_148 : decode cL_law 148 = .ok (.iconst 1, 1) := by decide +kernel
theorem dL_law_149 : decode cL_law 149 = .ok (.iadd, 1) := by decide +kernel
theorem dL_law_150 : decode cL_law 150 = .ok (.iaload, 1) := by decide +kernel
theorem dL_law_151 : decode cL_law 151 = .ok (.aload_n 0, 1) := by decide +kernel
theorem dL_law_152 : decode cL_law 152 = .ok (.iload_n 3, 1) := by decide +kernel
theorem dL_law_153 : decode cL_law 153 = .ok (.iconst 2, 1) := by decide +kernel
theorem dL_law_154 : decode cL_law 154 = .ok (.iadd, 1) := by decide +kernel
theorem dL_law_155 : decode cL_law 155 = .ok (.iaload, 1) := by decide +kernel
theorem dL_law_156 : decode cL_law 156 = .ok (.invokevirtual 29, 3) := by decide +kernel
theorem dL_law_159 : decode cL_law 159 = .ok (.if_icmp .eq 227, 3) := by decide +kernel
theorem dL_law_162 : decode cL_law 162 = .ok (.iconst 0, 1) := by decide +kernel
theorem dL_law_163 : decode cL_law 163 = .ok (.ireturn, 1) := by decide +kernel
theorem dL_law_164 : decode cL_law 164 = .ok (.aload_n 1, 1) := by decide +kernel
theorem dL_law_165 : decode cL_law 165 = .ok (.aload_n 0, 1) := by decide +kernel
theorem dL_law_166 : decode cL_law 166 = .ok (.iload_n 3, 1) := by decide +kernel
theorem dL_law_167 : decode cL_law 167 = .ok (.iconst 1, 1) := by decide +kernel
theorem dL_law_168 : decode cL_law 168 = .ok (.iadd, 1) := by decide +kernel
theorem dL_law_169 : decode cL_law 169 = .ok (.iaload, 1) := by decide +kernel
theorem dL_law_170 : decode cL_law 170 = .ok (.aload_n 0, 1) := by decide +kernel
theorem dL_law_171 : decode cL_law 171 = .ok (.iload_n 3, 1) := by decide +kernel
theorem dL_law_172 : decode cL_law 172 = .ok (.iconst 2, 1) := by decide +kernel
theorem dL_law_173 : decode cL_law 173 = .ok (.iadd, 1) := by decide +kernel
theorem dL_law_174 : decode cL_law 174 = .ok (.iaload, 1) := by decide +kernel
theorem dL_law_175 : decode cL_law 175 = .ok (.invokevirtual 30, 3) := by decide +kernel
theorem dL_law_178 : decode cL_law 178 = .ok (.aload_n 2, 1) := by decide +kernel
theorem dL_law_179 : decode cL_law 179 = .ok (.aload_n 0, 1) := by decide +kernel
theorem dL_law_180 : decode cL_law 180 = .ok (.iload_n 3, 1) := by decide +kernel
theorem dL_law_181 : decode cL_law 181 = .ok (.iconst 1, 1) := by decide +kernel
theorem dL_law_182 : decode cL_law 182 = .ok (.iadd, 1) := by decide +kernel
theorem dL_law_183 : decode cL_law 183 = .ok (.iaload, 1) := by decide +kernel
theorem dL_law_184 : decode cL_law 184 = .ok (.aload_n 0, 1) := by decide +kernel
theorem dL_law_185 : decode cL_law 185 = .ok (.iload_n 3, 1) := by decide +kernel
theorem dL_law_186 : decode cL_law 186 = .ok (.iconst 2, 1) := by decide +kernel
theorem dL_law_187 : decode cL_law 187 = .ok (.iadd, 1) := by decide +kernel
theorem dL_law_188 : decode cL_law 188 = .ok (.iaload, 1) := by decide +kernel
theorem dL_law_189 : decode cL_law 189 = .ok (.invokevirtual 33, 3) := by decide +kernel
theorem dL_law_192 : decode cL_law 192 = .ok (.if_icmp .eq 194, 3) := by decide +kernel
theorem dL_law_195 : decode cL_law 195 = .ok (.iconst 0, 1) := by decide +kernel
theorem dL_law_196 : decode cL_law 196 = .ok (.ireturn, 1) := by decide +kernel
theorem dL_law_197 : decode cL_law 197 = .ok (.aload_n 1, 1) := by decide +kernel
theorem dL_law_198 : decode cL_law 198 = .ok (.aload_n 0, 1) := by decide +kernel
theorem dL_law_199 : decode cL_law 199 = .ok (.iload_n 3, 1) := by decide +kernel
theorem dL_law_200 : decode cL_law 200 = .ok (.iconst 1, 1) := by decide +kernel
theorem dL_law_201 : decode cL_law 201 = .ok (.iadd, 1) := by decide +kernel
theorem dL_law_202 : decode cL_law 202 = .ok (.iaload, 1) := by decide +kernel
theorem dL_law_203 : decode cL_law 203 = .ok (.invokevirtual 34, 3) := by decide +kernel
theorem dL_law_206 : decode cL_law 206 = .ok (.aload_n 2, 1) := by decide +kernel
theorem dL_law_207 : decode cL_law 207 = .ok (.aload_n 0, 1) := by decide +kernel
theorem dL_law_208 : decode cL_law 208 = .ok (.iload_n 3, 1) := by decide +kernel
theorem dL_law_209 : decode cL_law 209 = .ok (.iconst 1, 1) := by decide +kernel
theorem dL_law_210 : decode cL_law 210 = .ok (.iadd, 1) := by decide +kernel
theorem dL_law_211 : decode cL_law 211 = .ok (.iaload, 1) := by decide +kernel
theorem dL_law_212 : decode cL_law 212 = .ok (.invokevirtual 38, 3) := by decide +kernel
theorem dL_law_215 : decode cL_law 215 = .ok (.if_icmp .eq 171, 3) := by decide +kernel
theorem dL_law_218 : decode cL_law 218 = .ok (.iconst 0, 1) := by decide +kernel
theorem dL_law_219 : decode cL_law 219 = .ok (.ireturn, 1) := by decide +kernel
theorem dL_law_220 : decode cL_law 220 = .ok (.aload_n 1, 1) := by decide +kernel
theorem dL_law_221 : decode cL_law 221 = .ok (.invokevirtual 39, 3) := by decide +kernel
theorem dL_law_224 : decode cL_law 224 = .ok (.aload_n 2, 1) := by decide +kernel
theorem dL_law_225 : decode cL_law 225 = .ok (.invokevirtual 43, 3) := by decide +kernel
theorem dL_law_228 : decode cL_law 228 = .ok (.if_icmp .eq 158, 3) := by decide +kernel
theorem dL_law_231 : decode cL_law 231 = .ok (.iconst 0, 1) := by decide +kernel
theorem dL_law_232 : decode cL_law 232 = .ok (.ireturn, 1) := by decide +kernel
theorem dL_law_233 : decode cL_law 233 = .ok (.aload_n 1, 1) := by decide +kernel
theorem dL_law_234 : decode cL_law 234 = .ok (.aload_n 0, 1) := by decide +kernel
theorem dL_law_235 : decode cL_law 235 = .ok (.iload_n 3, 1) := by decide +kernel
theorem dL_law_236 : decode cL_law 236 = .ok (.iconst 1, 1) := by decide +kernel
theorem dL_law_237 : decode cL_law 237 = .ok (.iadd, 1) := by decide +kernel
theorem dL_law_238 : decode cL_law 238 = .ok (.iaload, 1) := by decide +kernel
theorem dL_law_239 : decode cL_law 239 = .ok (.invokevirtual 44, 3) := by decide +kernel
theorem dL_law_242 : decode cL_law 242 = .ok (.aload_n 2, 1) := by decide +kernel
theorem dL_law_243 : decode cL_law 243 = .ok (.aload_n 0, 1) := by decide +kernel
theorem dL_law_244 : decode cL_law 244 = .ok (.iload_n 3, 1) := by decide +kernel
theorem dL_law_245 : decode cL_law 245 = .ok (.iconst 1, 1) := by decide +kernel
theorem dL_law_246 : decode cL_law 246 = .ok (.iadd, 1) := by decide +kernel
theorem dL_law_247 : decode cL_law 247 = .ok (.iaload, 1) := by decide +kernel
theorem dL_law_248 : decode cL_law 248 = .ok (.invokevirtual 47, 3) := by decide +kernel
theorem dL_law_251 : decode cL_law 251 = .ok (.if_icmp .eq 135, 3) := by decide +kernel
theorem dL_law_254 : decode cL_law 254 = .ok (.iconst 0, 1) := by decide +kernel
theorem dL_law_255 : decode cL_law 255 = .ok (.ireturn, 1) := by decide +kernel
theorem dL_law_256 : decode cL_law 256 = .ok (.aload_n 1, 1) := by decide +kernel
theorem dL_law_257 : decode cL_law 257 = .ok (.invokevirtual 48, 3) := by decide +kernel
theorem dL_law_260 : decode cL_law 260 = .ok (.aload_n 2, 1) := by decide +kernel
theorem dL_law_261 : decode cL_law 261 = .ok (.invokevirtual 51, 3) := by decide +kernel
theorem dL_law_264 : decode cL_law 264 = .ok (.goto 122, 3) := by decide +kernel
theorem dL_law_267 : decode cL_law 267 = .ok (.aload_n 1, 1) := by decide +kernel
theorem dL_law_268 : decode cL_law 268 = .ok (.aload_n 0, 1) := by decide +kernel
theorem dL_law_269 : decode cL_law 269 = .ok (.iload_n 3, 1) := by decide +kernel
theorem dL_law_270 : decode cL_law 270 = .ok (.iconst 1, 1) := by decide +kernel
theorem dL_law_271 : decode cL_law 271 = .ok (.iadd, 1) := by decide +kernel
theorem dL_law_272 : decode cL_law 272 = .ok (.iaload, 1) := by decide +kernel
theorem dL_law_273 : decode cL_law 273 = .ok (.invokevirtual 52, 3) := by decide +kernel
theorem dL_law_276 : decode cL_law 276 = .ok (.aload_n 2, 1) := by decide +kernel
theorem dL_law_277 : decode cL_law 277 = .ok (.aload_n 0, 1) := by decide +kernel
theorem dL_law_278 : decode cL_law 278 = .ok (.iload_n 3, 1) := by decide +kernel
theorem dL_law_279 : decode cL_law 279 = .ok (.iconst 1, 1) := by decide +kernel
theorem dL_law_280 : decode cL_law 280 = .ok (.iadd, 1) := by decide +kernel
theorem dL_law_281 : decode cL_law 281 = .ok (.iaload, 1) := by decide +kernel
theorem dL_law_282 : decode cL_law 282 = .ok (.invokevirtual 55, 3) := by decide +kernel
theorem dL_law_285 : decode cL_law 285 = .ok (.if_icmp .eq 101, 3) := by decide +kernel
theorem dL_law_288 : decode cL_law 288 = .ok (.iconst 0, 1) := by decide +kernel
theorem dL_law_289 : decode cL_law 289 = .ok (.ireturn, 1) := by decide +kernel
theorem dL_law_290 : decode cL_law 290 = .ok (.aload_n 1, 1) := by decide +kernel
theorem dL_law_291 : decode cL_law 291 = .ok (.invokevirtual 56, 3) := by decide +kernel
theorem dL_law_294 : decode cL_law 294 = .ok (.aload_n 2, 1) := by decide +kernel
theorem dL_law_295 : decode cL_law 295 = .ok (.invokevirtual 59, 3) := by decide +kernel
theorem dL_law_298 : decode cL_law 298 = .ok (.if_icmp .eq 88, 3) := by decide +kernel
theorem dL_law_301 : decode cL_law 301 = .ok (.iconst 0, 1) := by decide +kernel
theorem dL_law_302 : decode cL_law 302 = .ok (.ireturn, 1) := by decide +kernel
theorem dL_law_303 : decode cL_law 303 = .ok (.aload_n 1, 1) := by decide +kernel
theorem dL_law_304 : decode cL_law 304 = .ok (.aload_n 0, 1) := by decide +kernel
theorem dL_law_305 : decode cL_law 305 = .ok (.iload_n 3, 1) := by decide +kernel
theorem dL_law_306 : decode cL_law 306 = .ok (.iconst 1, 1) := by decide +kernel
theorem dL_law_307 : decode cL_law 307 = .ok (.iadd, 1) := by decide +kernel
theorem dL_law_308 : decode cL_law 308 = .ok (.iaload, 1) := by decide +kernel
theorem dL_law_309 : decode cL_law 309 = .ok (.invokevirtual 60, 3) := by decide +kernel
theorem dL_law_312 : decode cL_law 312 = .ok (.aload_n 2, 1) := by decide +kernel
theorem dL_law_313 : decode cL_law 313 = .ok (.aload_n 0, 1) := by decide +kernel
theorem dL_law_314 : decode cL_law 314 = .ok (.iload_n 3, 1) := by decide +kernel
theorem dL_law_315 : decode cL_law 315 = .ok (.iconst 1, 1) := by decide +kernel
theorem dL_law_316 : decode cL_law 316 = .ok (.iadd, 1) := by decide +kernel
theorem dL_law_317 : decode cL_law 317 = .ok (.iaload, 1) := by decide +kernel
theorem dL_law_318 : decode cL_law 318 = .ok (.invokevirtual 63, 3) := by decide +kernel
theorem dL_law_321 : decode cL_law 321 = .ok (.if_icmp .eq 65, 3) := by decide +kernel
theorem dL_law_324 : decode cL_law 324 = .ok (.iconst 0, 1) := by decide +kernel
theorem dL_law_325 : decode cL_law 325 = .ok (.ireturn, 1) := by decide +kernel
theorem dL_law_326 : decode cL_law 326 = .ok (.aload_n 1, 1) := by decide +kernel
theorem dL_law_327 : decode cL_law 327 = .ok (.aload_n 0, 1) := by decide +kernel
theorem dL_law_328 : decode cL_law 328 = .ok (.iload_n 3, 1) := by decide +kernel
theorem dL_law_329 : decode cL_law 329 = .ok (.iconst 1, 1) := by decide +kernel
theorem dL_law_330 : decode cL_law 330 = .ok (.iadd, 1) := by decide +kernel
theorem dL_law_331 : decode cL_law 331 = .ok (.iaload, 1) := by decide +kernel
theorem dL_law_332 : decode cL_law 332 = .ok (.invokevirtual 64, 3) := by decide +kernel
theorem dL_law_335 : decode cL_law 335 = .ok (.aload_n 2, 1) := by decide +kernel
theorem dL_law_336 : decode cL_law 336 = .ok (.aload_n 0, 1) := by decide +kernel
theorem dL_law_337 : decode cL_law 337 = .ok (.iload_n 3, 1) := by decide +kernel
theorem dL_law_338 : decode cL_law 338 = .ok (.iconst 1, 1) := by decide +kernel
theorem dL_law_339 : decode cL_law 339 = .ok (.iadd, 1) := by decide +kernel
theorem dL_law_340 : decode cL_law 340 = .ok (.iaload, 1) := by decide +kernel
theorem dL_law_341 : decode cL_law 341 = .ok (.invokevirtual 68, 3) := by decide +kernel
theorem dL_law_344 : decode cL_law 344 = .ok (.lcmp, 1) := by decide +kernel
theorem dL_law_345 : decode cL_law 345 = .ok (.ifCond .eq 41, 3) := by decide +kernel
theorem dL_law_348 : decode cL_law 348 = .ok (.iconst 0, 1) := by decide +kernel
theorem dL_law_349 : decode cL_law 349 = .ok (.ireturn, 1) := by decide +kernel
theorem dL_law_350 : decode cL_law 350 = .ok (.aload_n 1, 1) := by decide +kernel
theorem dL_law_351 : decode cL_law 351 = .ok (.invokevirtual 69, 3) := by decide +kernel
theorem dL_law_354 : decode cL_law 354 = .ok (.aload_n 2, 1) := by decide +kernel
theorem dL_law_355 : decode cL_law 355 = .ok (.invokevirtual 72, 3) := by decide +kernel
theorem dL_law_358 : decode cL_law 358 = .ok (.if_icmp .eq 28, 3) := by decide +kernel
theorem dL_law_361 : decode cL_law 361 = .ok (.iconst 0, 1) := by decide +kernel
theorem dL_law_362 : decode cL_law 362 = .ok (.ireturn, 1) := by decide +kernel
theorem dL_law_363 : decode cL_law 363 = .ok (.aload_n 1, 1) := by decide +kernel
theorem dL_law_364 : decode cL_law 364 = .ok (.aload_n 0, 1) := by decide +kernel
theorem dL_law_365 : decode cL_law 365 = .ok (.iload_n 3, 1) := by decide +kernel
theorem dL_law_366 : decode cL_law 366 = .ok (.iconst 1, 1) := by decide +kernel
theorem dL_law_367 : decode cL_law 367 = .ok (.iadd, 1) := by decide +kernel
theorem dL_law_368 : decode cL_law 368 = .ok (.iaload, 1) := by decide +kernel
theorem dL_law_369 : decode cL_law 369 = .ok (.invokevirtual 73, 3) := by decide +kernel
theorem dL_law_372 : decode cL_law 372 = .ok (.aload_n 2, 1) := by decide +kernel
theorem dL_law_373 : decode cL_law 373 = .ok (.aload_n 0, 1) := by decide +kernel
theorem dL_law_374 : decode cL_law 374 = .ok (.iload_n 3, 1) := by decide +kernel
theorem dL_law_375 : decode cL_law 375 = .ok (.iconst 1, 1) := by decide +kernel
theorem dL_law_376 : decode cL_law 376 = .ok (.iadd, 1) := by decide +kernel
theorem dL_law_377 : decode cL_law 377 = .ok (.iaload, 1) := by decide +kernel
theorem dL_law_378 : decode cL_law 378 = .ok (.invokevirtual 76, 3) := by decide +kernel
theorem dL_law_381 : decode cL_law 381 = .ok (.if_icmp .eq 5, 3) := by decide +kernel
theorem dL_law_384 : decode cL_law 384 = .ok (.iconst 0, 1) := by decide +kernel
theorem dL_law_385 : decode cL_law 385 = .ok (.ireturn, 1) := by decide +kernel
theorem dL_law_386 : decode cL_law 386 = .ok (.iinc 3 3, 3) := by decide +kernel
theorem dL_law_389 : decode cL_law 389 = .ok (.goto (-351), 3) := by decide +kernel
theorem dL_law_392 : decode cL_law 392 = .ok (.iconst 1, 1) := by decide +kernel
theorem dL_law_393 : decode cL_law 393 = .ok (.ireturn, 1) := by decide +kernel
end
section
/-! TOOLS: one list of words for all methods (big), one shape for all contracts, one row a call -/
def b2i (b : Bool) : Int32 := if b = true then 1 else 0
def jushr (x y : Int32) : Int32 := (x.toUInt32 >>> (y.toUInt32 &&& Int32.toUInt32 31)).toInt32
def jlushr (x : Int64) (y : Int32) : Int64 := (x.toUInt64 >>> (y.toInt64.toUInt64 &&& Int64.toUInt64 63)).toInt64
def jlshl (x : Int64) (y : Int32) : Int64 := x <<< (y.toInt64 &&& 63)
def jlshr (x : Int64) (y : Int32) : Int64 := x >>> (y.toInt64 &&& 63)
theorem b2i_t : b2i true = 1 := rfl
theorem b2i_f : b2i false = 0 := rfl
theorem b2i_0 {b : Bool} : b2i b = 0 ↔ b = false := by cases b <;> decide
theorem b2i_n0 {b : Bool} : ¬ b2i b = 0 ↔ b = true := by cases b <;> decide
theorem b2i_nar (b : Bool) : narrow .boolean (.int (b2i b)) = .int (b2i b) := by cases b <;> rfl
theorem b2i_fit (b : Bool) : fits .boolean (.int (b2i b)) = true := by cases b <;> rfl
def rmd (d : Nat) : Room := { frames := d, cells := 0, slots := 0, locals := 33 * d }
/-- a word of the list holds wherever the machine stands later -/
def tw_nest : Cond → Bool
  | .fieldLinkNest .. => true
  | .methodLinkNest .. => true
  | _ => false
theorem tw_warm {args : Array Value} {s : State} {w : Cond} (hg : (goodWord w || tw_nest w) = true) (h : w.before args s = true) : ∀ (a' : Array Value) (U : State), s.WarmedH U.vm → w.before a' U = true := by
  intro a' U hW
  rcases Bool.or_eq_true _ _ |>.mp hg with hg | hg
  · exact word_at hW (good_of_word hg) h
  · cases w with
    | fieldLinkNest a i b n d h2 => exact va_Nw.use rfl (va_Nw.warmF hW (va_Nw.of rfl h))
    | methodLinkNest a i x h2 => exact va_Nw.use rfl (va_Nw.warmM hW (va_Nw.of rfl h))
    | _ => simp [tw_nest] at hg
theorem fm_of {α β : Type} {f : α → Option β} : ∀ {l : List α} {w : List β}, l.map f = w.map some → l.filterMap f = w
  | [], [], _ => rfl
  | [], _ :: _, h => by simp at h
  | _ :: _, [], h => by simp at h
  | a :: l, b :: w, h => by
    simp only [List.map_cons, List.cons.injEq] at h
    rw [List.filterMap_cons, h.1]
    simp only [List.cons.injEq, true_and]
    exact fm_of h.2
theorem rg_all {α : Type} (ws : List α) : (List.range ws.length).map (fun i => ws[i]?) = ws.map some := by
  apply List.ext_getElem?
  intro i
  simp only [List.getElem?_map]
  by_cases h : i < ws.length
  · rw [List.getElem?_range h]
    simp [h]
  · rw [List.getElem?_eq_none (by simpa using h), List.getElem?_eq_none (by simpa using h)]
    rfl
/-- the words that every method is given: those of the tables that hold wherever the machine stands later -/
def big : List Cond := lw_tbl.filter (fun w => goodWord w || tw_nest w)
theorem mb {w : Cond} (i : Nat) (h : lw_tbl[i]? = some w) (hg : (goodWord w || tw_nest w) = true) : w ∈ big := List.mem_filter.mpr ⟨List.mem_of_getElem? h, hg⟩
theorem big_ok (w : Cond) (h : w ∈ big) : (goodWord w || tw_nest w) = true := (List.mem_filter.mp h).2
theorem big_in {w : Cond} (h : w ∈ big) : w ∈ lw_tbl := (List.mem_filter.mp h).1
theorem in_big (ws : List Cond) (ps : List Nat) (hp : ws = ps.filterMap (fun i => lw_tbl[i]?)) (hg : ws.all (fun w => goodWord w || tw_nest w) = true) : ∀ w ∈ ws, w ∈ big := by
  intro w hw
  have h1 := List.all_eq_true.mp hg w hw
  rw [hp] at hw
  obtain ⟨i, -, hi⟩ := List.mem_filterMap.mp hw
  exact mb i hi h1
abbrev KS : Type := (Nat → Int32) × Int32 × Bool × Int64 × Int32 × (Nat → Int32) × Int64 × Int64 × (Nat → Int32) × Int32 × Bool × Bool × Int32 × Int32 × Int32 × Int32 × Int32 × Int32
def kx (E : KS) : (Nat → Int32) := E.1
def kplace (E : KS) : Int32 := E.2.1
def kwaiting (E : KS) : Bool := E.2.2.1
def kretired (E : KS) : Int64 := E.2.2.2.1
def klatest (E : KS) : Int32 := E.2.2.2.2.1
def kwords (E : KS) : (Nat → Int32) := E.2.2.2.2.2.1
def ktime (E : KS) : Int64 := E.2.2.2.2.2.2.1
def klimit (E : KS) : Int64 := E.2.2.2.2.2.2.2.1
def kbytes (E : KS) : (Nat → Int32) := E.2.2.2.2.2.2.2.2.1
def ksent (E : KS) : Int32 := E.2.2.2.2.2.2.2.2.2.1
def kon (E : KS) : Bool := E.2.2.2.2.2.2.2.2.2.2.1
def kwas (E : KS) : Bool := E.2.2.2.2.2.2.2.2.2.2.2.1
def kenabled (E : KS) : Int32 := E.2.2.2.2.2.2.2.2.2.2.2.2.1
def kvector (E : KS) : Int32 := E.2.2.2.2.2.2.2.2.2.2.2.2.2.1
def kscratch (E : KS) : Int32 := E.2.2.2.2.2.2.2.2.2.2.2.2.2.2.1
def kback (E : KS) : Int32 := E.2.2.2.2.2.2.2.2.2.2.2.2.2.2.2.1
def kcause (E : KS) : Int32 := E.2.2.2.2.2.2.2.2.2.2.2.2.2.2.2.2.1
def kvalue (E : KS) : Int32 := E.2.2.2.2.2.2.2.2.2.2.2.2.2.2.2.2.2
def kx_ (E : KS) (v : (Nat → Int32)) : KS := (v, E.2)
def kplace_ (E : KS) (v : Int32) : KS := (E.1, v, E.2.2)
def kwaiting_ (E : KS) (v : Bool) : KS := (E.1, E.2.1, v, E.2.2.2)
def kretired_ (E : KS) (v : Int64) : KS := (E.1, E.2.1, E.2.2.1, v, E.2.2.2.2)
def klatest_ (E : KS) (v : Int32) : KS := (E.1, E.2.1, E.2.2.1, E.2.2.2.1, v, E.2.2.2.2.2)
def kwords_ (E : KS) (v : (Nat → Int32)) : KS := (E.1, E.2.1, E.2.2.1, E.2.2.2.1, E.2.2.2.2.1, v, E.2.2.2.2.2.2)
def ktime_ (E : KS) (v : Int64) : KS := (E.1, E.2.1, E.2.2.1, E.2.2.2.1, E.2.2.2.2.1, E.2.2.2.2.2.1, v, E.2.2.2.2.2.2.2)
def klimit_ (E : KS) (v : Int64) : KS := (E.1, E.2.1, E.2.2.1, E.2.2.2.1, E.2.2.2.2.1, E.2.2.2.2.2.1, E.2.2.2.2.2.2.1, v, E.2.2.2.2.2.2.2.2)
def kbytes_ (E : KS) (v : (Nat → Int32)) : KS := (E.1, E.2.1, E.2.2.1, E.2.2.2.1, E.2.2.2.2.1, E.2.2.2.2.2.1, E.2.2.2.2.2.2.1, E.2.2.2.2.2.2.2.1, v, E.2.2.2.2.2.2.2.2.2)
def ksent_ (E : KS) (v : Int32) : KS := (E.1, E.2.1, E.2.2.1, E.2.2.2.1, E.2.2.2.2.1, E.2.2.2.2.2.1, E.2.2.2.2.2.2.1, E.2.2.2.2.2.2.2.1, E.2.2.2.2.2.2.2.2.1, v, E.2.2.2.2.2.2.2.2.2.2)
def kon_ (E : KS) (v : Bool) : KS := (E.1, E.2.1, E.2.2.1, E.2.2.2.1, E.2.2.2.2.1, E.2.2.2.2.2.1, E.2.2.2.2.2.2.1, E.2.2.2.2.2.2.2.1, E.2.2.2.2.2.2.2.2.1, E.2.2.2.2.2.2.2.2.2.1, v, E.2.2.2.2.2.2.2.2.2.2.2)
def kwas_ (E : KS) (v : Bool) : KS := (E.1, E.2.1, E.2.2.1, E.2.2.2.1, E.2.2.2.2.1, E.2.2.2.2.2.1, E.2.2.2.2.2.2.1, E.2.2.2.2.2.2.2.1, E.2.2.2.2.2.2.2.2.1, E.2.2.2.2.2.2.2.2.2.1, E.2.2.2.2.2.2.2.2.2.2.1, v, E.2.2.2.2.2.2.2.2.2.2.2.2)
def kenabled_ (E : KS) (v : Int32) : KS := (E.1, E.2.1, E.2.2.1, E.2.2.2.1, E.2.2.2.2.1, E.2.2.2.2.2.1, E.2.2.2.2.2.2.1, E.2.2.2.2.2.2.2.1, E.2.2.2.2.2.2.2.2.1, E.2.2.2.2.2.2.2.2.2.1, E.2.2.2.2.2.2.2.2.2.2.1, E.2.2.2.2.2.2.2.2.2.2.2.1, v, E.2.2.2.2.2.2.2.2.2.2.2.2.2)
def kvector_ (E : KS) (v : Int32) : KS := (E.1, E.2.1, E.2.2.1, E.2.2.2.1, E.2.2.2.2.1, E.2.2.2.2.2.1, E.2.2.2.2.2.2.1, E.2.2.2.2.2.2.2.1, E.2.2.2.2.2.2.2.2.1, E.2.2.2.2.2.2.2.2.2.1, E.2.2.2.2.2.2.2.2.2.2.1, E.2.2.2.2.2.2.2.2.2.2.2.1, E.2.2.2.2.2.2.2.2.2.2.2.2.1, v, E.2.2.2.2.2.2.2.2.2.2.2.2.2.2)
def kscratch_ (E : KS) (v : Int32) : KS := (E.1, E.2.1, E.2.2.1, E.2.2.2.1, E.2.2.2.2.1, E.2.2.2.2.2.1, E.2.2.2.2.2.2.1, E.2.2.2.2.2.2.2.1, E.2.2.2.2.2.2.2.2.1, E.2.2.2.2.2.2.2.2.2.1, E.2.2.2.2.2.2.2.2.2.2.1, E.2.2.2.2.2.2.2.2.2.2.2.1, E.2.2.2.2.2.2.2.2.2.2.2.2.1, E.2.2.2.2.2.2.2.2.2.2.2.2.2.1, v, E.2.2.2.2.2.2.2.2.2.2.2.2.2.2.2)
def kback_ (E : KS) (v : Int32) : KS := (E.1, E.2.1, E.2.2.1, E.2.2.2.1, E.2.2.2.2.1, E.2.2.2.2.2.1, E.2.2.2.2.2.2.1, E.2.2.2.2.2.2.2.1, E.2.2.2.2.2.2.2.2.1, E.2.2.2.2.2.2.2.2.2.1, E.2.2.2.2.2.2.2.2.2.2.1, E.2.2.2.2.2.2.2.2.2.2.2.1, E.2.2.2.2.2.2.2.2.2.2.2.2.1, E.2.2.2.2.2.2.2.2.2.2.2.2.2.1, E.2.2.2.2.2.2.2.2.2.2.2.2.2.2.1, v, E.2.2.2.2.2.2.2.2.2.2.2.2.2.2.2.2)
def kcause_ (E : KS) (v : Int32) : KS := (E.1, E.2.1, E.2.2.1, E.2.2.2.1, E.2.2.2.2.1, E.2.2.2.2.2.1, E.2.2.2.2.2.2.1, E.2.2.2.2.2.2.2.1, E.2.2.2.2.2.2.2.2.1, E.2.2.2.2.2.2.2.2.2.1, E.2.2.2.2.2.2.2.2.2.2.1, E.2.2.2.2.2.2.2.2.2.2.2.1, E.2.2.2.2.2.2.2.2.2.2.2.2.1, E.2.2.2.2.2.2.2.2.2.2.2.2.2.1, E.2.2.2.2.2.2.2.2.2.2.2.2.2.2.1, E.2.2.2.2.2.2.2.2.2.2.2.2.2.2.2.1, v, E.2.2.2.2.2.2.2.2.2.2.2.2.2.2.2.2.2)
def kvalue_ (E : KS) (v : Int32) : KS := (E.1, E.2.1, E.2.2.1, E.2.2.2.1, E.2.2.2.2.1, E.2.2.2.2.2.1, E.2.2.2.2.2.2.1, E.2.2.2.2.2.2.2.1, E.2.2.2.2.2.2.2.2.1, E.2.2.2.2.2.2.2.2.2.1, E.2.2.2.2.2.2.2.2.2.2.1, E.2.2.2.2.2.2.2.2.2.2.2.1, E.2.2.2.2.2.2.2.2.2.2.2.2.1, E.2.2.2.2.2.2.2.2.2.2.2.2.2.1, E.2.2.2.2.2.2.2.2.2.2.2.2.2.2.1, E.2.2.2.2.2.2.2.2.2.2.2.2.2.2.2.1, E.2.2.2.2.2.2.2.2.2.2.2.2.2.2.2.2.1, v)
abbrev MS : Type := (Nat → Int32) × Int32 × Bool × Bool × Int32 × Int32 × Int32 × Int32 × Int32 × Int32 × Int64 × Int64 × (Nat → Int32) × Int32 × Int64 × Bool × Int32 × Int32 × Int32 × Int32 × Int32 × Int32 × Int32 × Int32 × (Nat → Int32)
def mx (E : MS) : (Nat → Int32) := E.1
def mpc (E : MS) : Int32 := E.2.1
def mmie (E : MS) : Bool := E.2.2.1
def mmpie (E : MS) : Bool := E.2.2.2.1
def mmieBits (E : MS) : Int32 := E.2.2.2.2.1
def mmtvec (E : MS) : Int32 := E.2.2.2.2.2.1
def mmscratch (E : MS) : Int32 := E.2.2.2.2.2.2.1
def mmepc (E : MS) : Int32 := E.2.2.2.2.2.2.2.1
def mmcause (E : MS) : Int32 := E.2.2.2.2.2.2.2.2.1
def mmtval (E : MS) : Int32 := E.2.2.2.2.2.2.2.2.2.1
def mtime (E : MS) : Int64 := E.2.2.2.2.2.2.2.2.2.2.1
def mlimit (E : MS) : Int64 := E.2.2.2.2.2.2.2.2.2.2.2.1
def msent (E : MS) : (Nat → Int32) := E.2.2.2.2.2.2.2.2.2.2.2.2.1
def msentMany (E : MS) : Int32 := E.2.2.2.2.2.2.2.2.2.2.2.2.2.1
def mretired (E : MS) : Int64 := E.2.2.2.2.2.2.2.2.2.2.2.2.2.2.1
def mwaits (E : MS) : Bool := E.2.2.2.2.2.2.2.2.2.2.2.2.2.2.2.1
def mlatest (E : MS) : Int32 := E.2.2.2.2.2.2.2.2.2.2.2.2.2.2.2.2.1
def mword (E : MS) : Int32 := E.2.2.2.2.2.2.2.2.2.2.2.2.2.2.2.2.2.1
def md (E : MS) : Int32 := E.2.2.2.2.2.2.2.2.2.2.2.2.2.2.2.2.2.2.1
def mf (E : MS) : Int32 := E.2.2.2.2.2.2.2.2.2.2.2.2.2.2.2.2.2.2.2.1
def ms (E : MS) : Int32 := E.2.2.2.2.2.2.2.2.2.2.2.2.2.2.2.2.2.2.2.2.1
def mt (E : MS) : Int32 := E.2.2.2.2.2.2.2.2.2.2.2.2.2.2.2.2.2.2.2.2.2.1
def mg (E : MS) : Int32 := E.2.2.2.2.2.2.2.2.2.2.2.2.2.2.2.2.2.2.2.2.2.2.1
def mnext (E : MS) : Int32 := E.2.2.2.2.2.2.2.2.2.2.2.2.2.2.2.2.2.2.2.2.2.2.2.1
def mmemory (E : MS) : (Nat → Int32) := E.2.2.2.2.2.2.2.2.2.2.2.2.2.2.2.2.2.2.2.2.2.2.2.2
def mx_ (E : MS) (v : (Nat → Int32)) : MS := (v, E.2)
def mpc_ (E : MS) (v : Int32) : MS := (E.1, v, E.2.2)
def mmie_ (E : MS) (v : Bool) : MS := (E.1, E.2.1, v, E.2.2.2)
def mmpie_ (E : MS) (v : Bool) : MS := (E.1, E.2.1, E.2.2.1, v, E.2.2.2.2)
def mmieBits_ (E : MS) (v : Int32) : MS := (E.1, E.2.1, E.2.2.1, E.2.2.2.1, v, E.2.2.2.2.2)
def mmtvec_ (E : MS) (v : Int32) : MS := (E.1, E.2.1, E.2.2.1, E.2.2.2.1, E.2.2.2.2.1, v, E.2.2.2.2.2.2)
def mmscratch_ (E : MS) (v : Int32) : MS := (E.1, E.2.1, E.2.2.1, E.2.2.2.1, E.2.2.2.2.1, E.2.2.2.2.2.1, v, E.2.2.2.2.2.2.2)
def mmepc_ (E : MS) (v : Int32) : MS := (E.1, E.2.1, E.2.2.1, E.2.2.2.1, E.2.2.2.2.1, E.2.2.2.2.2.1, E.2.2.2.2.2.2.1, v, E.2.2.2.2.2.2.2.2)
def mmcause_ (E : MS) (v : Int32) : MS := (E.1, E.2.1, E.2.2.1, E.2.2.2.1, E.2.2.2.2.1, E.2.2.2.2.2.1, E.2.2.2.2.2.2.1, E.2.2.2.2.2.2.2.1, v, E.2.2.2.2.2.2.2.2.2)
def mmtval_ (E : MS) (v : Int32) : MS := (E.1, E.2.1, E.2.2.1, E.2.2.2.1, E.2.2.2.2.1, E.2.2.2.2.2.1, E.2.2.2.2.2.2.1, E.2.2.2.2.2.2.2.1, E.2.2.2.2.2.2.2.2.1, v, E.2.2.2.2.2.2.2.2.2.2)
def mtime_ (E : MS) (v : Int64) : MS := (E.1, E.2.1, E.2.2.1, E.2.2.2.1, E.2.2.2.2.1, E.2.2.2.2.2.1, E.2.2.2.2.2.2.1, E.2.2.2.2.2.2.2.1, E.2.2.2.2.2.2.2.2.1, E.2.2.2.2.2.2.2.2.2.1, v, E.2.2.2.2.2.2.2.2.2.2.2)
def mlimit_ (E : MS) (v : Int64) : MS := (E.1, E.2.1, E.2.2.1, E.2.2.2.1, E.2.2.2.2.1, E.2.2.2.2.2.1, E.2.2.2.2.2.2.1, E.2.2.2.2.2.2.2.1, E.2.2.2.2.2.2.2.2.1, E.2.2.2.2.2.2.2.2.2.1, E.2.2.2.2.2.2.2.2.2.2.1, v, E.2.2.2.2.2.2.2.2.2.2.2.2)
def msent_ (E : MS) (v : (Nat → Int32)) : MS := (E.1, E.2.1, E.2.2.1, E.2.2.2.1, E.2.2.2.2.1, E.2.2.2.2.2.1, E.2.2.2.2.2.2.1, E.2.2.2.2.2.2.2.1, E.2.2.2.2.2.2.2.2.1, E.2.2.2.2.2.2.2.2.2.1, E.2.2.2.2.2.2.2.2.2.2.1, E.2.2.2.2.2.2.2.2.2.2.2.1, v, E.2.2.2.2.2.2.2.2.2.2.2.2.2)
def msentMany_ (E : MS) (v : Int32) : MS := (E.1, E.2.1, E.2.2.1, E.2.2.2.1, E.2.2.2.2.1, E.2.2.2.2.2.1, E.2.2.2.2.2.2.1, E.2.2.2.2.2.2.2.1, E.2.2.2.2.2.2.2.2.1, E.2.2.2.2.2.2.2.2.2.1, E.2.2.2.2.2.2.2.2.2.2.1, E.2.2.2.2.2.2.2.2.2.2.2.1, E.2.2.2.2.2.2.2.2.2.2.2.2.1, v, E.2.2.2.2.2.2.2.2.2.2.2.2.2.2)
def mretired_ (E : MS) (v : Int64) : MS := (E.1, E.2.1, E.2.2.1, E.2.2.2.1, E.2.2.2.2.1, E.2.2.2.2.2.1, E.2.2.2.2.2.2.1, E.2.2.2.2.2.2.2.1, E.2.2.2.2.2.2.2.2.1, E.2.2.2.2.2.2.2.2.2.1, E.2.2.2.2.2.2.2.2.2.2.1, E.2.2.2.2.2.2.2.2.2.2.2.1, E.2.2.2.2.2.2.2.2.2.2.2.2.1, E.2.2.2.2.2.2.2.2.2.2.2.2.2.1, v, E.2.2.2.2.2.2.2.2.2.2.2.2.2.2.2)
def mwaits_ (E : MS) (v : Bool) : MS := (E.1, E.2.1, E.2.2.1, E.2.2.2.1, E.2.2.2.2.1, E.2.2.2.2.2.1, E.2.2.2.2.2.2.1, E.2.2.2.2.2.2.2.1, E.2.2.2.2.2.2.2.2.1, E.2.2.2.2.2.2.2.2.2.1, E.2.2.2.2.2.2.2.2.2.2.1, E.2.2.2.2.2.2.2.2.2.2.2.1, E.2.2.2.2.2.2.2.2.2.2.2.2.1, E.2.2.2.2.2.2.2.2.2.2.2.2.2.1, E.2.2.2.2.2.2.2.2.2.2.2.2.2.2.1, v, E.2.2.2.2.2.2.2.2.2.2.2.2.2.2.2.2)
def mlatest_ (E : MS) (v : Int32) : MS := (E.1, E.2.1, E.2.2.1, E.2.2.2.1, E.2.2.2.2.1, E.2.2.2.2.2.1, E.2.2.2.2.2.2.1, E.2.2.2.2.2.2.2.1, E.2.2.2.2.2.2.2.2.1, E.2.2.2.2.2.2.2.2.2.1, E.2.2.2.2.2.2.2.2.2.2.1, E.2.2.2.2.2.2.2.2.2.2.2.1, E.2.2.2.2.2.2.2.2.2.2.2.2.1, E.2.2.2.2.2.2.2.2.2.2.2.2.2.1, E.2.2.2.2.2.2.2.2.2.2.2.2.2.2.1, E.2.2.2.2.2.2.2.2.2.2.2.2.2.2.2.1, v, E.2.2.2.2.2.2.2.2.2.2.2.2.2.2.2.2.2)
def mword_ (E : MS) (v : Int32) : MS := (E.1, E.2.1, E.2.2.1, E.2.2.2.1, E.2.2.2.2.1, E.2.2.2.2.2.1, E.2.2.2.2.2.2.1, E.2.2.2.2.2.2.2.1, E.2.2.2.2.2.2.2.2.1, E.2.2.2.2.2.2.2.2.2.1, E.2.2.2.2.2.2.2.2.2.2.1, E.2.2.2.2.2.2.2.2.2.2.2.1, E.2.2.2.2.2.2.2.2.2.2.2.2.1, E.2.2.2.2.2.2.2.2.2.2.2.2.2.1, E.2.2.2.2.2.2.2.2.2.2.2.2.2.2.1, E.2.2.2.2.2.2.2.2.2.2.2.2.2.2.2.1, E.2.2.2.2.2.2.2.2.2.2.2.2.2.2.2.2.1, v, E.2.2.2.2.2.2.2.2.2.2.2.2.2.2.2.2.2.2)
def md_ (E : MS) (v : Int32) : MS := (E.1, E.2.1, E.2.2.1, E.2.2.2.1, E.2.2.2.2.1, E.2.2.2.2.2.1, E.2.2.2.2.2.2.1, E.2.2.2.2.2.2.2.1, E.2.2.2.2.2.2.2.2.1, E.2.2.2.2.2.2.2.2.2.1, E.2.2.2.2.2.2.2.2.2.2.1, E.2.2.2.2.2.2.2.2.2.2.2.1, E.2.2.2.2.2.2.2.2.2.2.2.2.1, E.2.2.2.2.2.2.2.2.2.2.2.2.2.1, E.2.2.2.2.2.2.2.2.2.2.2.2.2.2.1, E.2.2.2.2.2.2.2.2.2.2.2.2.2.2.2.1, E.2.2.2.2.2.2.2.2.2.2.2.2.2.2.2.2.1, E.2.2.2.2.2.2.2.2.2.2.2.2.2.2.2.2.2.1, v, E.2.2.2.2.2.2.2.2.2.2.2.2.2.2.2.2.2.2.2)
def mf_ (E : MS) (v : Int32) : MS := (E.1, E.2.1, E.2.2.1, E.2.2.2.1, E.2.2.2.2.1, E.2.2.2.2.2.1, E.2.2.2.2.2.2.1, E.2.2.2.2.2.2.2.1, E.2.2.2.2.2.2.2.2.1, E.2.2.2.2.2.2.2.2.2.1, E.2.2.2.2.2.2.2.2.2.2.1, E.2.2.2.2.2.2.2.2.2.2.2.1, E.2.2.2.2.2.2.2.2.2.2.2.2.1, E.2.2.2.2.2.2.2.2.2.2.2.2.2.1, E.2.2.2.2.2.2.2.2.2.2.2.2.2.2.1, E.2.2.2.2.2.2.2.2.2.2.2.2.2.2.2.1, E.2.2.2.2.2.2.2.2.2.2.2.2.2.2.2.2.1, E.2.2.2.2.2.2.2.2.2.2.2.2.2.2.2.2.2.1, E.2.2.2.2.2.2.2.2.2.2.2.2.2.2.2.2.2.2.1, v, E.2.2.2.2.2.2.2.2.2.2.2.2.2.2.2.2.2.2.2.2)
def ms_ (E : MS) (v : Int32) : MS := (E.1, E.2.1, E.2.2.1, E.2.2.2.1, E.2.2.2.2.1, E.2.2.2.2.2.1, E.2.2.2.2.2.2.1, E.2.2.2.2.2.2.2.1, E.2.2.2.2.2.2.2.2.1, E.2.2.2.2.2.2.2.2.2.1, E.2.2.2.2.2.2.2.2.2.2.1, E.2.2.2.2.2.2.2.2.2.2.2.1, E.2.2.2.2.2.2.2.2.2.2.2.2.1, E.2.2.2.2.2.2.2.2.2.2.2.2.2.1, E.2.2.2.2.2.2.2.2.2.2.2.2.2.2.1, E.2.2.2.2.2.2.2.2.2.2.2.2.2.2.2.1, E.2.2.2.2.2.2.2.2.2.2.2.2.2.2.2.2.1, E.2.2.2.2.2.2.2.2.2.2.2.2.2.2.2.2.2.1, E.2.2.2.2.2.2.2.2.2.2.2.2.2.2.2.2.2.2.1, E.2.2.2.2.2.2.2.2.2.2.2.2.2.2.2.2.2.2.2.1, v, E.2.2.2.2.2.2.2.2.2.2.2.2.2.2.2.2.2.2.2.2.2)
def mt_ (E : MS) (v : Int32) : MS := (E.1, E.2.1, E.2.2.1, E.2.2.2.1, E.2.2.2.2.1, E.2.2.2.2.2.1, E.2.2.2.2.2.2.1, E.2.2.2.2.2.2.2.1, E.2.2.2.2.2.2.2.2.1, E.2.2.2.2.2.2.2.2.2.1, E.2.2.2.2.2.2.2.2.2.2.1, E.2.2.2.2.2.2.2.2.2.2.2.1, E.2.2.2.2.2.2.2.2.2.2.2.2.1, E.2.2.2.2.2.2.2.2.2.2.2.2.2.1, E.2.2.2.2.2.2.2.2.2.2.2.2.2.2.1, E.2.2.2.2.2.2.2.2.2.2.2.2.2.2.2.1, E.2.2.2.2.2.2.2.2.2.2.2.2.2.2.2.2.1, E.2.2.2.2.2.2.2.2.2.2.2.2.2.2.2.2.2.1, E.2.2.2.2.2.2.2.2.2.2.2.2.2.2.2.2.2.2.1, E.2.2.2.2.2.2.2.2.2.2.2.2.2.2.2.2.2.2.2.1, E.2.2.2.2.2.2.2.2.2.2.2.2.2.2.2.2.2.2.2.2.1, v, E.2.2.2.2.2.2.2.2.2.2.2.2.2.2.2.2.2.2.2.2.2.2)
def mg_ (E : MS) (v : Int32) : MS := (E.1, E.2.1, E.2.2.1, E.2.2.2.1, E.2.2.2.2.1, E.2.2.2.2.2.1, E.2.2.2.2.2.2.1, E.2.2.2.2.2.2.2.1, E.2.2.2.2.2.2.2.2.1, E.2.2.2.2.2.2.2.2.2.1, E.2.2.2.2.2.2.2.2.2.2.1, E.2.2.2.2.2.2.2.2.2.2.2.1, E.2.2.2.2.2.2.2.2.2.2.2.2.1, E.2.2.2.2.2.2.2.2.2.2.2.2.2.1, E.2.2.2.2.2.2.2.2.2.2.2.2.2.2.1, E.2.2.2.2.2.2.2.2.2.2.2.2.2.2.2.1, E.2.2.2.2.2.2.2.2.2.2.2.2.2.2.2.2.1, E.2.2.2.2.2.2.2.2.2.2.2.2.2.2.2.2.2.1, E.2.2.2.2.2.2.2.2.2.2.2.2.2.2.2.2.2.2.1, E.2.2.2.2.2.2.2.2.2.2.2.2.2.2.2.2.2.2.2.1, E.2.2.2.2.2.2.2.2.2.2.2.2.2.2.2.2.2.2.2.2.1, E.2.2.2.2.2.2.2.2.2.2.2.2.2.2.2.2.2.2.2.2.2.1, v, E.2.2.2.2.2.2.2.2.2.2.2.2.2.2.2.2.2.2.2.2.2.2.2)
def mnext_ (E : MS) (v : Int32) : MS := (E.1, E.2.1, E.2.2.1, E.2.2.2.1, E.2.2.2.2.1, E.2.2.2.2.2.1, E.2.2.2.2.2.2.1, E.2.2.2.2.2.2.2.1, E.2.2.2.2.2.2.2.2.1, E.2.2.2.2.2.2.2.2.2.1, E.2.2.2.2.2.2.2.2.2.2.1, E.2.2.2.2.2.2.2.2.2.2.2.1, E.2.2.2.2.2.2.2.2.2.2.2.2.1, E.2.2.2.2.2.2.2.2.2.2.2.2.2.1, E.2.2.2.2.2.2.2.2.2.2.2.2.2.2.1, E.2.2.2.2.2.2.2.2.2.2.2.2.2.2.2.1, E.2.2.2.2.2.2.2.2.2.2.2.2.2.2.2.2.1, E.2.2.2.2.2.2.2.2.2.2.2.2.2.2.2.2.2.1, E.2.2.2.2.2.2.2.2.2.2.2.2.2.2.2.2.2.2.1, E.2.2.2.2.2.2.2.2.2.2.2.2.2.2.2.2.2.2.2.1, E.2.2.2.2.2.2.2.2.2.2.2.2.2.2.2.2.2.2.2.2.1, E.2.2.2.2.2.2.2.2.2.2.2.2.2.2.2.2.2.2.2.2.2.1, E.2.2.2.2.2.2.2.2.2.2.2.2.2.2.2.2.2.2.2.2.2.2.1, v, E.2.2.2.2.2.2.2.2.2.2.2.2.2.2.2.2.2.2.2.2.2.2.2.2)
def mmemory_ (E : MS) (v : (Nat → Int32)) : MS := (E.1, E.2.1, E.2.2.1, E.2.2.2.1, E.2.2.2.2.1, E.2.2.2.2.2.1, E.2.2.2.2.2.2.1, E.2.2.2.2.2.2.2.1, E.2.2.2.2.2.2.2.2.1, E.2.2.2.2.2.2.2.2.2.1, E.2.2.2.2.2.2.2.2.2.2.1, E.2.2.2.2.2.2.2.2.2.2.2.1, E.2.2.2.2.2.2.2.2.2.2.2.2.1, E.2.2.2.2.2.2.2.2.2.2.2.2.2.1, E.2.2.2.2.2.2.2.2.2.2.2.2.2.2.1, E.2.2.2.2.2.2.2.2.2.2.2.2.2.2.2.1, E.2.2.2.2.2.2.2.2.2.2.2.2.2.2.2.2.1, E.2.2.2.2.2.2.2.2.2.2.2.2.2.2.2.2.2.1, E.2.2.2.2.2.2.2.2.2.2.2.2.2.2.2.2.2.2.1, E.2.2.2.2.2.2.2.2.2.2.2.2.2.2.2.2.2.2.2.1, E.2.2.2.2.2.2.2.2.2.2.2.2.2.2.2.2.2.2.2.2.1, E.2.2.2.2.2.2.2.2.2.2.2.2.2.2.2.2.2.2.2.2.2.1, E.2.2.2.2.2.2.2.2.2.2.2.2.2.2.2.2.2.2.2.2.2.2.1, E.2.2.2.2.2.2.2.2.2.2.2.2.2.2.2.2.2.2.2.2.2.2.2.1, v)
def cwK (q : Nat → Nat) (ca : Nat → ClassId) (nW nB : Nat) (E : KS) : va_W := [(q 0, .inr (4, [.ref (q 1), .ref (q 3), .ref (q 4), .ref (q 6), .ref (q 7), .int (kplace E), .int (b2i (kwaiting E)), .long (kretired E), .int (klatest E)])), (q 1, .inr (1, [.ref (q 2)])), (q 2, .inl (ca 0, nW, .inl (kwords E))), (q 3, .inr (3, [.long (ktime E), .long (klimit E)])), (q 4, .inr (2, [.ref (q 5), .int (ksent E)])), (q 5, .inl (ca 1, nB, .inl (kbytes E))), (q 6, .inr (0, [.int (b2i (kon E)), .int (b2i (kwas E)), .int (kenabled E), .int (kvector E), .int (kscratch E), .int (kback E), .int (kcause E), .int (kvalue E)])), (q 7, .inl (ca 2, 32, .inl (kx E)))]
def cwM (q : Nat → Nat) (ca : Nat → ClassId) (sz mo : Int32) (E : MS) : va_W := [(q 0, .inr (5, [.int sz, .int mo, .ref (q 1), .ref (q 2), .int (mpc E), .int (b2i (mmie E)), .int (b2i (mmpie E)), .int (mmieBits E), .int (mmtvec E), .int (mmscratch E), .int (mmepc E), .int (mmcause E), .int (mmtval E), .long (mtime E), .long (mlimit E), .ref (q 3), .int (msentMany E), .long (mretired E), .int (b2i (mwaits E)), .int (mlatest E), .int (mword E), .int (md E), .int (mf E), .int (ms E), .int (mt E), .int (mg E), .int (mnext E)])), (q 1, .inl (ca 0, 65536, .inl (mmemory E))), (q 2, .inl (ca 1, 32, .inl (mx E))), (q 3, .inl (ca 2, 4096, .inl (msent E)))]
def tysK (ca : Nat → ClassId) : List (ClassId × FieldType) := [(ca 0, .int), (ca 1, .byte), (ca 2, .int)]
def tysM (ca : Nat → ClassId) : List (ClassId × FieldType) := [(ca 0, .int), (ca 1, .int), (ca 2, .int)]
abbrev KOk (nW nB : Nat) : Prop := nW ≤ 16384 ∧ nB ≤ 4096
abbrev MOk (sz mo : Int32) : Prop := (64 ≤ sz.toInt ∧ sz.toInt ≤ 65536) ∧ (0 ≤ mo.toInt ∧ mo.toInt ≤ 4096)
abbrev mDec (E : MS) : Prop := vp_in (md E) 32 ∧ vp_in (ms E) 32 ∧ vp_in (mt E) 32 ∧ vp_in (mf E) 8
abbrev mSnt (mo : Int32) (E : MS) : Prop := 0 ≤ (msentMany E).toInt ∧ (msentMany E).toInt ≤ mo.toInt
section TW
variable {p : Program} {l : Launch} {e : Env} {R : Room} {s : State} {m : MethodId} {args : Array Value} {below : List Frame} {meth : Method} {c : Code} {H H0 : Heap} {locs : List Loc} {cells slots : Nat} {Q : State → Prop}
variable {cc bts : ByteArray} {pc nL nL2 n d index ci q0 N : Nat} {ls : Array Slot} {rest st As : List Value} {own host : String} {y : MethodName} {ret : Option FieldType} {b : Nat} {T : u_T} {fs : List Value}
variable {D : va_G} {tys : List (ClassId × FieldType)} {A : Nat → Prop} {ws w1 : va_W}
abbrev Cx (p : Program) (m : MethodId) (c : Code) (cc : ByteArray) (nL : Nat) (s : State) (args : Array Value) (own : String) (D : va_G) (tys : List (ClassId × FieldType)) : Prop := CallFix p m c cc nL s args big own ∧ va_K D vwCl tys s
def PcW (D : va_G) (tys : List (ClassId × FieldType)) (As : List Value) (ws : va_W) (sz : Nat) : Array Value → State → Prop := va_Pc As (fun U => U.heap.size = sz ∧ va_P D vwCl ws U.heap ∧ va_K D vwCl tys U ∧ va_D (fun _ => True) ws)
def QcI (D : va_G) (ws w1 : va_W) (rv : Int32) (sz : Nat) : Array Value → State → Outcome → State → Prop := va_Qi (fun r (_ : Unit) => r = rv) (fun _ t => va_P D vwCl w1 t.heap ∧ va_D (va_A ws sz) w1) (va_A ws sz)
def QcL (D : va_G) (ws w1 : va_W) (rv : Int64) (sz : Nat) : Array Value → State → Outcome → State → Prop := va_Ql (fun r (_ : Unit) => r = rv) (fun _ t => va_P D vwCl w1 t.heap ∧ va_D (va_A ws sz) w1) (va_A ws sz)
def QcV (D : va_G) (ws w1 : va_W) (sz : Nat) : Array Value → State → Outcome → State → Prop := va_Qv (fun (_ : Unit) => True) (fun _ t => va_P D vwCl w1 t.heap ∧ va_D (va_A ws sz) w1) (va_A ws sz)
/-- a method's contract: from the world ws, over any caller -/
def Mt (l : Launch) (y : MethodName) (cc : ByteArray) (nL : Nat) (ret : Option FieldType) (d : Nat) (D : va_G) (tys : List (ClassId × FieldType)) (As : List Value) (ws : va_W) (Qc : Nat → Array Value → State → Outcome → State → Prop) : Prop := ∀ sz : Nat, Met l y (.code y cc nL ret :: big) (rmd d) (PcW D tys As ws sz) (Qc sz) 0 0 (va_A ws sz)
theorem tw_blind {sz : Nat} : FrameBlind (PcW D tys As ws sz) := fun a U g mk q => by
  obtain ⟨q0, q1, qP, qK, qD⟩ := q
  exact ⟨q0, q1, qP, va_K.moved (u := U) (U := U.calling g mk a) (Vm.Alike.refl U.vm) qK, qD⟩
theorem tw_pre (hP : va_P D vwCl ws H) (hK : va_K D vwCl tys s) (hD : va_D A ws) : ∀ U : State, U.heap = H → s.WarmedH U.vm → PcW D tys As ws H.size As.toArray U := fun U hU hW => ⟨rfl, by rw [hU], by rw [hU]; exact hP, va_K.moved hW.alike hK, hD.weaken (fun _ _ _ _ => trivial)⟩
theorem tw_words (h : ∀ w ∈ big, w.before args s = true) (hc : Cond.code y bts nL2 ret ∈ big) : ∀ w ∈ (Cond.code y bts nL2 ret :: big), ∀ (a' : Array Value) (U : State), s.WarmedH U.vm → w.before a' U = true := by
  intro w hw
  have hw2 : w ∈ big := by
    rcases List.mem_cons.mp hw with rfl | h2
    · exact hc
    · exact h2
  exact tw_warm (big_ok w hw2) (h w hw2)
abbrev OkB (y : MethodName) (bts : ByteArray) (nL : Nat) (ret : Option FieldType) (n : Nat) : Prop := Cond.code y bts nL ret ∈ big ∧ Cond.initialized y.cls ∈ big ∧ (y.cls ≠ "java/lang/invoke/MethodHandle" ∧ y.cls ≠ "java/lang/invoke/VarHandle" ∧ (parseMethodDescriptor y.desc).map (fun d => d.parameters.length) = some n)
abbrev OkV (y : MethodName) (bts : ByteArray) (nL : Nat) (ret : Option FieldType) (n : Nat) : Prop := OkB y bts nL ret n ∧ Cond.instanceMethod y ∈ big ∧ Cond.selects y.cls y y ∈ big
abbrev OkS (y : MethodName) (bts : ByteArray) (nL : Nat) (ret : Option FieldType) (n : Nat) : Prop := OkB y bts nL ret n ∧ Cond.static y ∈ big
theorem tw_len (h : (parseMethodDescriptor y.desc).map (fun d => d.parameters.length) = some n) : ∀ sig, parseMethodDescriptor y.desc = some sig → n = sig.parameters.length := fun sig q => by
  rw [q] at h
  exact (Option.some.inj h).symm
theorem tw_CB (hB : ∀ w ∈ big, w.before args s = true) (ok : OkB y bts nL2 ret n) (hl : Cond.methodLink own index y ∈ big) (hR : d + 1 ≤ R.frames ∧ 8 + (nL2 + 11) + 33 * d ≤ R.locals) : CallB R s args own index y bts nL2 ret (.code y bts nL2 ret :: big) (rmd d) 0 0 n :=
  ⟨rfl, rfl, hR.1, hR.2, tw_words hB ok.1, List.mem_cons_self, hB _ ok.1, hB _ ok.2.1, ⟨ok.2.2.1, ok.2.2.2.1⟩, tw_len ok.2.2.2.2, hB _ hl⟩
theorem tw_CN (hB : ∀ w ∈ big, w.before args s = true) (ok : OkB y bts nL2 ret n) (hl : Cond.methodLinkNest own index y host ∈ big) (hR : d + 1 ≤ R.frames ∧ 8 + (nL2 + 11) + 33 * d ≤ R.locals) : va_CN R s args own index y host bts nL2 ret (.code y bts nL2 ret :: big) (rmd d) 0 0 n :=
  ⟨⟨rfl, rfl, hR.1, hR.2, tw_words hB ok.1, List.mem_cons_self⟩, hB _ ok.1, hB _ ok.2.1, ⟨ok.2.2.1, ok.2.2.2.1⟩, tw_len ok.2.2.2.2, hB _ hl⟩
/-- calls of a method by its object, over the whole world -/
theorem rn_V {Qc : Nat → Array Value → State → Outcome → State → Prop} (X : Cx p m c cc nL s args own D tys) (hM : Mt l y bts nL2 ret d D tys (.ref b :: As) ws Qc) (ok : OkV y bts nL2 ret n) (hl : Cond.methodLink own index y ∈ big) (hR : d + 1 ≤ R.frames ∧ 8 + (nL2 + 11) + 33 * d ≤ R.locals) (hP : va_P D vwCl ws H) (hD : va_D A ws) (hc : vwCl[ci]? = some (y.cls, T, N)) (he : ws[q0]? = some (b, .inr (ci, fs))) (hn : As.length = n) (hsz : ls.size = nL) (hst : st = As.reverse ++ .ref b :: rest) (hW : (rest.map fun v => v.category).sum ≤ 8) (hdg : decode cc pc = .ok (.invokevirtual index, 3)) (hf : cells ≤ R.cells ∧ slots ≤ R.slots) :
    va_Run p l e R s m args below meth c H locs cells slots 0 0 (F0 m pc ls st) rest (Qc H.size (Value.ref b :: As).toArray) (va_A ws H.size) :=
  va_runV (C := y.cls) (As := As) (rest := rest) X.1 (hM H.size) ⟨tw_CB X.1.2.2.2.2 ok.1 hl hR, X.1.2.2.2.2 _ ok.2.1, X.1.2.2.2.2 _ ok.2.2⟩ ⟨tw_blind, va_recv X.2 hP hc he, tw_pre hP X.2 hD⟩ rfl hn hsz hst (lv_room hW) hdg hf
theorem rn_S {Qc : Nat → Array Value → State → Outcome → State → Prop} (X : Cx p m c cc nL s args own D tys) (hM : Mt l y bts nL2 ret d D tys As ws Qc) (ok : OkS y bts nL2 ret n) (hl : Cond.methodLink own index y ∈ big) (hR : d + 1 ≤ R.frames ∧ 8 + (nL2 + 11) + 33 * d ≤ R.locals) (hP : va_P D vwCl ws H) (hD : va_D A ws) (hn : As.length = n) (hsz : ls.size = nL) (hst : st = As.reverse ++ rest) (hW : (rest.map fun v => v.category).sum ≤ 8) (hdg : decode cc pc = .ok (.invokestatic index, 3)) (hf : cells ≤ R.cells ∧ slots ≤ R.slots) :
    va_Run p l e R s m args below meth c H locs cells slots 0 0 (F0 m pc ls st) rest (Qc H.size As.toArray) (va_A ws H.size) :=
  va_runS (As := As) (rest := rest) X.1 (hM H.size) ⟨tw_CB X.1.2.2.2.2 ok.1 hl hR, X.1.2.2.2.2 _ ok.2⟩ ⟨tw_blind, tw_pre hP X.2 hD⟩ rfl hn hsz hst (lv_room hW) hdg hf
theorem rn_SN {Qc : Nat → Array Value → State → Outcome → State → Prop} (X : Cx p m c cc nL s args own D tys) (hM : Mt l y bts nL2 ret d D tys As ws Qc) (ok : OkS y bts nL2 ret n) (hl : Cond.methodLinkNest own index y host ∈ big) (hR : d + 1 ≤ R.frames ∧ 8 + (nL2 + 11) + 33 * d ≤ R.locals) (hP : va_P D vwCl ws H) (hD : va_D A ws) (hn : As.length = n) (hsz : ls.size = nL) (hst : st = As.reverse ++ rest) (hW : (rest.map fun v => v.category).sum ≤ 8) (hdg : decode cc pc = .ok (.invokestatic index, 3)) (hf : cells ≤ R.cells ∧ slots ≤ R.slots) :
    va_Run p l e R s m args below meth c H locs cells slots 0 0 (F0 m pc ls st) rest (Qc H.size As.toArray) (va_A ws H.size) :=
  va_runSN (As := As) (rest := rest) X.1 (hM H.size) ⟨tw_CN X.1.2.2.2.2 ok.1 hl hR, X.1.2.2.2.2 _ ok.2, trivial⟩ ⟨tw_blind, tw_pre hP X.2 hD⟩ rfl hn hsz hst (lv_room hW) hdg hf
theorem tw_join {A0 : Nat → Prop} {H1 : Heap} (hP : va_P D vwCl ws H) (hD : va_D A0 ws) (hS : va_S A0 H0 H locs) (hA : ∀ q, H0.size ≤ q → A0 q) (hP1 : va_P D vwCl w1 H1) (hD1 : va_D (va_A ws H.size) w1) : va_D A0 w1 :=
  hD1.weaken (fun _ q _ h => va_free hD hS hA (List.range ws.length) (rg_all ws) q.1 h)
theorem go_i {rv : Int32} {a : Array Value} (hr : va_Run p l e R s m args below meth c H locs cells slots 0 0 (F0 m pc ls st) rest (QcI D ws w1 rv H.size a) (va_A ws H.size)) (hP : va_P D vwCl ws H) (hD : va_D A ws) (hS : va_S A H0 H locs) (hA : ∀ q, H0.size ≤ q → A q) (kk : ∀ (H1 : Heap) (locs1 : List Loc), va_P D vwCl w1 H1 → va_D A w1 → va_S A H0 H1 locs1 → W p l e R s m args below meth c H1 locs1 cells slots Q (F0 m (pc + 3) ls (.int rv :: rest))) : W p l e R s m args below meth c H locs cells slots Q (F0 m pc ls st) := by
  have hF := va_free hD hS hA (List.range ws.length) (rg_all ws)
  refine va_calli hr hS (fun q _ h => hF q h) hF (fun r u t H1 locs1 ht hvm hw hB hz1 hk1 hS1 => ?_)
  subst hw
  obtain ⟨hP1, hD1⟩ := hB
  rw [ht] at hP1
  exact kk H1 locs1 hP1 (tw_join hP hD hS hA hP1 hD1) hS1
theorem go_l {rv : Int64} {a : Array Value} (hr : va_Run p l e R s m args below meth c H locs cells slots 0 0 (F0 m pc ls st) rest (QcL D ws w1 rv H.size a) (va_A ws H.size)) (hP : va_P D vwCl ws H) (hD : va_D A ws) (hS : va_S A H0 H locs) (hA : ∀ q, H0.size ≤ q → A q) (kk : ∀ (H1 : Heap) (locs1 : List Loc), va_P D vwCl w1 H1 → va_D A w1 → va_S A H0 H1 locs1 → W p l e R s m args below meth c H1 locs1 cells slots Q (F0 m (pc + 3) ls (.long rv :: rest))) : W p l e R s m args below meth c H locs cells slots Q (F0 m pc ls st) := by
  have hF := va_free hD hS hA (List.range ws.length) (rg_all ws)
  refine va_calll hr hS (fun q _ h => hF q h) hF (fun r u t H1 locs1 ht hvm hw hB hz1 hk1 hS1 => ?_)
  subst hw
  obtain ⟨hP1, hD1⟩ := hB
  rw [ht] at hP1
  exact kk H1 locs1 hP1 (tw_join hP hD hS hA hP1 hD1) hS1
theorem go_v {a : Array Value} (hr : va_Run p l e R s m args below meth c H locs cells slots 0 0 (F0 m pc ls st) rest (QcV D ws w1 H.size a) (va_A ws H.size)) (hP : va_P D vwCl ws H) (hD : va_D A ws) (hS : va_S A H0 H locs) (hA : ∀ q, H0.size ≤ q → A q) (kk : ∀ (H1 : Heap) (locs1 : List Loc), va_P D vwCl w1 H1 → va_D A w1 → va_S A H0 H1 locs1 → W p l e R s m args below meth c H1 locs1 cells slots Q (F0 m (pc + 3) ls rest)) : W p l e R s m args below meth c H locs cells slots Q (F0 m pc ls st) := by
  have hF := va_free hD hS hA (List.range ws.length) (rg_all ws)
  refine va_callv hr hS (fun q _ h => hF q h) hF (fun u t H1 locs1 ht hvm hw hB hz1 hk1 hS1 => ?_)
  obtain ⟨hP1, hD1⟩ := hB
  rw [ht] at hP1
  exact kk H1 locs1 hP1 (tw_join hP hD hS hA hP1 hD1) hS1
/-- a method's entry -/
theorem ent {Qc : Nat → Array Value → State → Outcome → State → Prop} (ho : y.cls = own) (hy : plainName y.cls = true) (hsl : (lg_sl As).length ≤ nL)
    (body : ∀ (p : Program) (e : Env) (s : State) (m : MethodId) (below : List Frame) (meth : Method) (c : Code) (A : Nat → Prop) (ls : Array Slot), Cx p m c cc nL s As.toArray own D tys → meth.sig.returnType = ret → meth.locks = false → meth.name = y.name → A = va_A ws s.heap.size → (∀ q : Nat, s.heap.size ≤ q → A q) → va_P D vwCl ws s.heap → va_D A ws → va_S A s.heap s.heap [] → lv_has ls nL (lv_args 0 As) →
      W p l e (rmd d) s m As.toArray below meth c s.heap [] 0 0 (MQ below (Qc s.heap.size) As.toArray s 0 0 A) (F0 m 0 ls [])) : Mt l y cc nL ret d D tys As ws Qc := by
  subst ho
  intro sz
  refine Met.ofW (cc := cc) (maxL := nL) (ret := ret) hy rfl ?_
  intro p e s m args below meth c s₁ B hml hv
  obtain ⟨rfl, hsz, hP, hK, hD0⟩ := hv
  have hts := atoms_spec (ws := .code y cc nL ret :: big) B.pre
  have hown : s.vm.findClass y.cls = some m.cls := findClass_of_methodNamed B.named
  subst hsz
  have hl := lv_entry As (n := nL) hsl
  rw [lg_entry_eq]
  generalize (lg_sl As ++ List.replicate (nL - (lg_sl As).length) Slot.unset).toArray = ls at hl ⊢
  exact body p e s m below meth c (va_A ws s.heap.size) ls ⟨⟨B.exec, B.bytes, hml, hown, fun w h => hts w (List.mem_cons_of_mem _ h)⟩, hK⟩ B.returns B.notSynchronized (name_of_methodNamed B.named B.method).1 rfl (fun q h => Or.inr h) hP hD0.self va_S.rf hl
theorem rt_i {rv : Int32} (X : Cx p m c cc nL s args own D tys) (hP : va_P D vwCl w1 H) (hD : va_D A w1) (hS : va_S A s.heap H locs) (hAe : A = va_A ws s.heap.size) (hr : meth.sig.returnType = some .int) (hlk : meth.locks = false) (hdg : decode cc pc = .ok (.ireturn, 1)) : W p l e R s m args below meth c H locs 0 0 (MQ below (QcI D ws w1 rv s.heap.size) args s 0 0 A) (F0 m pc ls [.int rv]) := by
  subst hAe
  exact W.iret (v := rv) X.1.1 X.1.2.1 hr (fun t ht hW => ⟨⟨rv, (), rfl, rfl, by rw [ht]; exact hP, hD⟩, hS.F ht⟩) hS.2.2 hdg
theorem rt_z {rv : Bool} (X : Cx p m c cc nL s args own D tys) (hP : va_P D vwCl w1 H) (hD : va_D A w1) (hS : va_S A s.heap H locs) (hAe : A = va_A ws s.heap.size) (hr : meth.sig.returnType = some .boolean) (hlk : meth.locks = false) (hdg : decode cc pc = .ok (.ireturn, 1)) : W p l e R s m args below meth c H locs 0 0 (MQ below (QcI D ws w1 (b2i rv) s.heap.size) args s 0 0 A) (F0 m pc ls [.int (b2i rv)]) := by
  subst hAe
  exact W.zret (v := b2i rv) X.1.1 X.1.2.1 hr (b2i_nar rv) (fun t ht hW => ⟨⟨b2i rv, (), rfl, rfl, by rw [ht]; exact hP, hD⟩, hS.F ht⟩) hS.2.2 hdg
theorem rt_l {rv : Int64} (X : Cx p m c cc nL s args own D tys) (hP : va_P D vwCl w1 H) (hD : va_D A w1) (hS : va_S A s.heap H locs) (hAe : A = va_A ws s.heap.size) (hr : meth.sig.returnType = some .long) (hlk : meth.locks = false) (hdg : decode cc pc = .ok (.lreturn, 1)) : W p l e R s m args below meth c H locs 0 0 (MQ below (QcL D ws w1 rv s.heap.size) args s 0 0 A) (F0 m pc ls [.long rv]) := by
  subst hAe
  exact W.lret (v := rv) X.1.1 X.1.2.1 hr (fun t ht hW => ⟨⟨rv, (), rfl, rfl, by rw [ht]; exact hP, hD⟩, hS.F ht⟩) hS.2.2 hdg
theorem rt_v (X : Cx p m c cc nL s args own D tys) (hP : va_P D vwCl w1 H) (hD : va_D A w1) (hS : va_S A s.heap H locs) (hAe : A = va_A ws s.heap.size) (hr : meth.sig.returnType = none) (hlk : meth.locks = false) (hdg : decode cc pc = .ok (.return_, 1)) : W p l e R s m args below meth c H locs 0 0 (MQ below (QcV D ws w1 s.heap.size) args s 0 0 A) (F0 m pc ls []) := by
  subst hAe
  exact W.vret X.1.1 X.1.2.1 hr (fun t ht hW => ⟨⟨(), rfl, trivial, by rw [ht]; exact hP, hD⟩, hS.F ht⟩) hS.2.2 hdg
theorem tw_eqi {x y : Int32} (h : x = y) (k : W p l e R s m args below meth c H locs cells slots Q (F0 m pc ls (.int y :: rest))) : W p l e R s m args below meth c H locs cells slots Q (F0 m pc ls (.int x :: rest)) := h ▸ k
theorem tw_eql {x y : Int64} (h : x = y) (k : W p l e R s m args below meth c H locs cells slots Q (F0 m pc ls (.long y :: rest))) : W p l e R s m args below meth c H locs cells slots Q (F0 m pc ls (.long x :: rest)) := h ▸ k
theorem rg_i {F v : Int32} (hv : F = v) (X : Cx p m c cc nL s args own D tys) (hP : va_P D vwCl w1 H) (hD : va_D A w1) (hS : va_S A s.heap H locs) (hAe : A = va_A ws s.heap.size) (hr : meth.sig.returnType = some .int) (hlk : meth.locks = false) (hdg : decode cc pc = .ok (.ireturn, 1)) : W p l e R s m args below meth c H locs 0 0 (MQ below (QcI D ws w1 F s.heap.size) args s 0 0 A) (F0 m pc ls [.int v]) := by
  subst hv
  exact rt_i X hP hD hS hAe hr hlk hdg
theorem rg_z {F v : Bool} (hv : F = v) (X : Cx p m c cc nL s args own D tys) (hP : va_P D vwCl w1 H) (hD : va_D A w1) (hS : va_S A s.heap H locs) (hAe : A = va_A ws s.heap.size) (hr : meth.sig.returnType = some .boolean) (hlk : meth.locks = false) (hdg : decode cc pc = .ok (.ireturn, 1)) : W p l e R s m args below meth c H locs 0 0 (MQ below (QcI D ws w1 (b2i F) s.heap.size) args s 0 0 A) (F0 m pc ls [.int (b2i v)]) := by
  subst hv
  exact rt_z X hP hD hS hAe hr hlk hdg
theorem rg_l {F v : Int64} (hv : F = v) (X : Cx p m c cc nL s args own D tys) (hP : va_P D vwCl w1 H) (hD : va_D A w1) (hS : va_S A s.heap H locs) (hAe : A = va_A ws s.heap.size) (hr : meth.sig.returnType = some .long) (hlk : meth.locks = false) (hdg : decode cc pc = .ok (.lreturn, 1)) : W p l e R s m args below meth c H locs 0 0 (MQ below (QcL D ws w1 F s.heap.size) args s 0 0 A) (F0 m pc ls [.long v]) := by
  subst hv
  exact rt_l X hP hD hS hAe hr hlk hdg
theorem rku_i {q : Nat → Nat} {ca : Nat → ClassId} {nW nB : Nat} {F : Int32 × KS} {v : Int32} {E1 : KS} (hv : F = (v, E1)) (X : Cx p m c cc nL s args own D tys) (hP : va_P D vwCl (cwK q ca nW nB E1) H) (hD : va_D A (cwK q ca nW nB E1)) (hS : va_S A s.heap H locs) (hAe : A = va_A ws s.heap.size) (hr : meth.sig.returnType = some .int) (hlk : meth.locks = false) (hdg : decode cc pc = .ok (.ireturn, 1)) : W p l e R s m args below meth c H locs 0 0 (MQ below (QcI D ws (cwK q ca nW nB F.2) F.1 s.heap.size) args s 0 0 A) (F0 m pc ls [.int v]) := by
  subst hv
  exact rt_i X hP hD hS hAe hr hlk hdg
theorem rku_z {q : Nat → Nat} {ca : Nat → ClassId} {nW nB : Nat} {F : Bool × KS} {v : Bool} {E1 : KS} (hv : F = (v, E1)) (X : Cx p m c cc nL s args own D tys) (hP : va_P D vwCl (cwK q ca nW nB E1) H) (hD : va_D A (cwK q ca nW nB E1)) (hS : va_S A s.heap H locs) (hAe : A = va_A ws s.heap.size) (hr : meth.sig.returnType = some .boolean) (hlk : meth.locks = false) (hdg : decode cc pc = .ok (.ireturn, 1)) : W p l e R s m args below meth c H locs 0 0 (MQ below (QcI D ws (cwK q ca nW nB F.2) (b2i F.1) s.heap.size) args s 0 0 A) (F0 m pc ls [.int (b2i v)]) := by
  subst hv
  exact rt_z X hP hD hS hAe hr hlk hdg
theorem rku_l {q : Nat → Nat} {ca : Nat → ClassId} {nW nB : Nat} {F : Int64 × KS} {v : Int64} {E1 : KS} (hv : F = (v, E1)) (X : Cx p m c cc nL s args own D tys) (hP : va_P D vwCl (cwK q ca nW nB E1) H) (hD : va_D A (cwK q ca nW nB E1)) (hS : va_S A s.heap H locs) (hAe : A = va_A ws s.heap.size) (hr : meth.sig.returnType = some .long) (hlk : meth.locks = false) (hdg : decode cc pc = .ok (.lreturn, 1)) : W p l e R s m args below meth c H locs 0 0 (MQ below (QcL D ws (cwK q ca nW nB F.2) F.1 s.heap.size) args s 0 0 A) (F0 m pc ls [.long v]) := by
  subst hv
  exact rt_l X hP hD hS hAe hr hlk hdg
theorem rku_v {q : Nat → Nat} {ca : Nat → ClassId} {nW nB : Nat} {F E1 : KS} (hv : F = E1) (X : Cx p m c cc nL s args own D tys) (hP : va_P D vwCl (cwK q ca nW nB E1) H) (hD : va_D A (cwK q ca nW nB E1)) (hS : va_S A s.heap H locs) (hAe : A = va_A ws s.heap.size) (hr : meth.sig.returnType = none) (hlk : meth.locks = false) (hdg : decode cc pc = .ok (.return_, 1)) : W p l e R s m args below meth c H locs 0 0 (MQ below (QcV D ws (cwK q ca nW nB F) s.heap.size) args s 0 0 A) (F0 m pc ls []) := by
  subst hv
  exact rt_v X hP hD hS hAe hr hlk hdg
theorem rmu_i {q : Nat → Nat} {ca : Nat → ClassId} {sz mo : Int32} {F : Int32 × MS} {v : Int32} {E1 : MS} (hv : F = (v, E1)) (X : Cx p m c cc nL s args own D tys) (hP : va_P D vwCl (cwM q ca sz mo E1) H) (hD : va_D A (cwM q ca sz mo E1)) (hS : va_S A s.heap H locs) (hAe : A = va_A ws s.heap.size) (hr : meth.sig.returnType = some .int) (hlk : meth.locks = false) (hdg : decode cc pc = .ok (.ireturn, 1)) : W p l e R s m args below meth c H locs 0 0 (MQ below (QcI D ws (cwM q ca sz mo F.2) F.1 s.heap.size) args s 0 0 A) (F0 m pc ls [.int v]) := by
  subst hv
  exact rt_i X hP hD hS hAe hr hlk hdg
theorem rmu_z {q : Nat → Nat} {ca : Nat → ClassId} {sz mo : Int32} {F : Bool × MS} {v : Bool} {E1 : MS} (hv : F = (v, E1)) (X : Cx p m c cc nL s args own D tys) (hP : va_P D vwCl (cwM q ca sz mo E1) H) (hD : va_D A (cwM q ca sz mo E1)) (hS : va_S A s.heap H locs) (hAe : A = va_A ws s.heap.size) (hr : meth.sig.returnType = some .boolean) (hlk : meth.locks = false) (hdg : decode cc pc = .ok (.ireturn, 1)) : W p l e R s m args below meth c H locs 0 0 (MQ below (QcI D ws (cwM q ca sz mo F.2) (b2i F.1) s.heap.size) args s 0 0 A) (F0 m pc ls [.int (b2i v)]) := by
  subst hv
  exact rt_z X hP hD hS hAe hr hlk hdg
theorem rmu_l {q : Nat → Nat} {ca : Nat → ClassId} {sz mo : Int32} {F : Int64 × MS} {v : Int64} {E1 : MS} (hv : F = (v, E1)) (X : Cx p m c cc nL s args own D tys) (hP : va_P D vwCl (cwM q ca sz mo E1) H) (hD : va_D A (cwM q ca sz mo E1)) (hS : va_S A s.heap H locs) (hAe : A = va_A ws s.heap.size) (hr : meth.sig.returnType = some .long) (hlk : meth.locks = false) (hdg : decode cc pc = .ok (.lreturn, 1)) : W p l e R s m args below meth c H locs 0 0 (MQ below (QcL D ws (cwM q ca sz mo F.2) F.1 s.heap.size) args s 0 0 A) (F0 m pc ls [.long v]) := by
  subst hv
  exact rt_l X hP hD hS hAe hr hlk hdg
theorem rmu_v {q : Nat → Nat} {ca : Nat → ClassId} {sz mo : Int32} {F E1 : MS} (hv : F = E1) (X : Cx p m c cc nL s args own D tys) (hP : va_P D vwCl (cwM q ca sz mo E1) H) (hD : va_D A (cwM q ca sz mo E1)) (hS : va_S A s.heap H locs) (hAe : A = va_A ws s.heap.size) (hr : meth.sig.returnType = none) (hlk : meth.locks = false) (hdg : decode cc pc = .ok (.return_, 1)) : W p l e R s m args below meth c H locs 0 0 (MQ below (QcV D ws (cwM q ca sz mo F) s.heap.size) args s 0 0 A) (F0 m pc ls []) := by
  subst hv
  exact rt_v X hP hD hS hAe hr hlk hdg
end TW
end
section
/-! words, fields, arrays -/
theorem wd_0 : (.selects RX4 yX4_stepOnce yX4_stepOnce : Cond) ∈ big := mb 0 (by decide +kernel) rfl
theorem wd_1 : (.selects RX4 yX4_instruct yX4_instruct : Cond) ∈ big := mb 1 (by decide +kernel) rfl
theorem wd_2 : (.selects RX4 yX4_trap yX4_trap : Cond) ∈ big := mb 2 (by decide +kernel) rfl
theorem wd_3 : (.selects RX4 yX4_retire yX4_retire : Cond) ∈ big := mb 3 (by decide +kernel) rfl
theorem wd_4 : (.selects RX4 yX4_setD yX4_setD : Cond) ∈ big := mb 4 (by decide +kernel) rfl
theorem wd_5 : (.selects RX4 yX4_retireAt yX4_retireAt : Cond) ∈ big := mb 5 (by decide +kernel) rfl
theorem wd_6 : (.selects RX4 yX4_jump yX4_jump : Cond) ∈ big := mb 6 (by decide +kernel) rfl
theorem wd_7 : (.selects RX4 yX4_a yX4_a : Cond) ∈ big := mb 7 (by decide +kernel) rfl
theorem wd_8 : (.selects RX4 yX4_illegal yX4_illegal : Cond) ∈ big := mb 8 (by decide +kernel) rfl
theorem wd_9 : (.selects RX4 yX4_branch yX4_branch : Cond) ∈ big := mb 9 (by decide +kernel) rfl
theorem wd_10 : (.selects RX4 yX4_b yX4_b : Cond) ∈ big := mb 10 (by decide +kernel) rfl
theorem wd_11 : (.selects RX4 yX4_read yX4_read : Cond) ∈ big := mb 11 (by decide +kernel) rfl
theorem wd_12 : (.selects RX4 yX4_store yX4_store : Cond) ∈ big := mb 12 (by decide +kernel) rfl
theorem wd_13 : (.selects RX4 yX4_reckonWithNumber yX4_reckonWithNumber : Cond) ∈ big := mb 13 (by decide +kernel) rfl
theorem wd_14 : (.selects RX4 yX4_reckonWithRegister yX4_reckonWithRegister : Cond) ∈ big := mb 14 (by decide +kernel) rfl
theorem wd_15 : (.selects RX4 yX4_system yX4_system : Cond) ∈ big := mb 15 (by decide +kernel) rfl
theorem wd_16 : (.selects RX4 yX4_control yX4_control : Cond) ∈ big := mb 16 (by decide +kernel) rfl
theorem wd_17 : (.selects RX5 yX5_isThere yX5_isThere : Cond) ∈ big := mb 17 (by decide +kernel) rfl
theorem wd_18 : (.selects RX5 yX5_put yX5_put : Cond) ∈ big := mb 18 (by decide +kernel) rfl
theorem wd_19 : (.selects RX5 yX5_isDue yX5_isDue : Cond) ∈ big := mb 19 (by decide +kernel) rfl
theorem wd_20 : (.selects RX5 yX5_once yX5_once : Cond) ∈ big := mb 20 (by decide +kernel) rfl
theorem wd_21 : (.selects RX5 yX5_trap yX5_trap : Cond) ∈ big := mb 21 (by decide +kernel) rfl
theorem wd_22 : (.selects RX5 yX5_instruction yX5_instruction : Cond) ∈ big := mb 22 (by decide +kernel) rfl
theorem wd_23 : (.selects RX5 yX5_get yX5_get : Cond) ∈ big := mb 23 (by decide +kernel) rfl
theorem wd_24 : (.selects RX5 yX5_work yX5_work : Cond) ∈ big := mb 24 (by decide +kernel) rfl
theorem wd_25 : (.selects RX5 yX5_become yX5_become : Cond) ∈ big := mb 25 (by decide +kernel) rfl
theorem wd_26 : (.selects RX5 yX5_goTo yX5_goTo : Cond) ∈ big := mb 26 (by decide +kernel) rfl
theorem wd_27 : (.selects RX5 yX5_immediate yX5_immediate : Cond) ∈ big := mb 27 (by decide +kernel) rfl
theorem wd_28 : (.selects RX5 yX5_illegal yX5_illegal : Cond) ∈ big := mb 28 (by decide +kernel) rfl
theorem wd_29 : (.selects RX5 yX5_branch yX5_branch : Cond) ∈ big := mb 29 (by decide +kernel) rfl
theorem wd_30 : (.selects RX5 yX5_read yX5_read : Cond) ∈ big := mb 30 (by decide +kernel) rfl
theorem wd_31 : (.selects RX5 yX5_store yX5_store : Cond) ∈ big := mb 31 (by decide +kernel) rfl
theorem wd_32 : (.selects RX5 yX5_reckonBy yX5_reckonBy : Cond) ∈ big := mb 32 (by decide +kernel) rfl
theorem wd_33 : (.selects RX5 yX5_reckon yX5_reckon : Cond) ∈ big := mb 33 (by decide +kernel) rfl
theorem wd_34 : (.selects RX5 yX5_reckonTwo yX5_reckonTwo : Cond) ∈ big := mb 34 (by decide +kernel) rfl
theorem wd_35 : (.selects RX5 yX5_multiplied yX5_multiplied : Cond) ∈ big := mb 35 (by decide +kernel) rfl
theorem wd_36 : (.selects RX5 yX5_system yX5_system : Cond) ∈ big := mb 36 (by decide +kernel) rfl
theorem wd_37 : (.selects RX5 yX5_control yX5_control : Cond) ∈ big := mb 37 (by decide +kernel) rfl
theorem wd_38 : (.selects RX5 yX5_setCsr yX5_setCsr : Cond) ∈ big := mb 38 (by decide +kernel) rfl
theorem wd_39 : (.initialized RL : Cond) ∈ big := mb 39 (by decide +kernel) rfl
theorem wd_40 : (.initialized RX4 : Cond) ∈ big := mb 40 (by decide +kernel) rfl
theorem wd_41 : (.initialized RX1 : Cond) ∈ big := mb 41 (by decide +kernel) rfl
theorem wd_43 : (.initialized RX3 : Cond) ∈ big := mb 43 (by decide +kernel) rfl
theorem wd_44 : (.initialized RX2 : Cond) ∈ big := mb 44 (by decide +kernel) rfl
theorem wd_45 : (.initialized RX0 : Cond) ∈ big := mb 45 (by decide +kernel) rfl
theorem wd_46 : (.initialized RX5 : Cond) ∈ big := mb 46 (by decide +kernel) rfl
theorem wd_47 : (.initialized RJ13 : Cond) ∈ big := mb 47 (by decide +kernel) rfl
theorem wd_48 : (.initialized RJ6 : Cond) ∈ big := mb 48 (by decide +kernel) rfl
theorem wd_51 : (.methodLink RL 15 yX4_init : Cond) ∈ big := mb 51 (by decide +kernel) rfl
set_option maxRecDepth 100000 in
theorem wd_53 : (.code yX4_init cX4_init 3 none : Cond) ∈ big := mb 53 rfl rfl
theorem wd_54 : (.methodLink RX4 1 objectInit : Cond) ∈ big := mb 54 (by decide +kernel) rfl
theorem wd_60 : (.methodLink RX4 12 yJ9_min_7cf53 : Cond) ∈ big := mb 60 (by decide +kernel) rfl
theorem wd_63 : (.methodLink RX4 18 yJ9_max_7cf53 : Cond) ∈ big := mb 63 (by decide +kernel) rfl
theorem wd_66 : (.methodLink RX4 21 yX1_init : Cond) ∈ big := mb 66 (by decide +kernel) rfl
set_option maxRecDepth 100000 in
theorem wd_68 : (.code yX1_init cX1_init 2 none : Cond) ∈ big := mb 68 rfl rfl
theorem wd_69 : (.methodLink RX1 1 objectInit : Cond) ∈ big := mb 69 (by decide +kernel) rfl
theorem wd_70 : (.fieldLink RX1 7 "RvCore$Memory" "words" "[I" : Cond) ∈ big := mb 70 (by decide +kernel) rfl
theorem wd_77 : (.methodLinkNest RX4 30 yX3_init "RvCore" : Cond) ∈ big := mb 77 (by decide +kernel) rfl
set_option maxRecDepth 100000 in
theorem wd_79 : (.code yX3_init cX3_init 1 none : Cond) ∈ big := mb 79 rfl rfl
theorem wd_80 : (.methodLink RX3 1 objectInit : Cond) ∈ big := mb 80 (by decide +kernel) rfl
theorem wd_81 : (.fieldLink RX3 7 "RvCore$Timer" "time" "J" : Cond) ∈ big := mb 81 (by decide +kernel) rfl
theorem wd_82 : (.fieldLinkNest RX4 105 "RvCore$Timer" "time" "J" "RvCore" : Cond) ∈ big := mb 82 (by decide +kernel) rfl
theorem wd_83 : (.fieldLink RX3 15 "RvCore$Timer" "limit" "J" : Cond) ∈ big := mb 83 (by decide +kernel) rfl
theorem wd_84 : (.fieldLinkNest RX4 108 "RvCore$Timer" "limit" "J" "RvCore" : Cond) ∈ big := mb 84 (by decide +kernel) rfl
theorem wd_92 : (.methodLink RX4 37 yX2_init : Cond) ∈ big := mb 92 (by decide +kernel) rfl
set_option maxRecDepth 100000 in
theorem wd_94 : (.code yX2_init cX2_init 2 none : Cond) ∈ big := mb 94 rfl rfl
theorem wd_95 : (.methodLink RX2 1 objectInit : Cond) ∈ big := mb 95 (by decide +kernel) rfl
theorem wd_96 : (.fieldLink RX2 7 "RvCore$Port" "bytes" "[B" : Cond) ∈ big := mb 96 (by decide +kernel) rfl
theorem wd_97 : (.fieldLink RX2 13 "RvCore$Port" "sent" "I" : Cond) ∈ big := mb 97 (by decide +kernel) rfl
theorem wd_98 : (.fieldLinkNest RX4 111 "RvCore$Port" "sent" "I" "RvCore" : Cond) ∈ big := mb 98 (by decide +kernel) rfl
theorem wd_107 : (.methodLinkNest RX4 44 yX0_init "RvCore" : Cond) ∈ big := mb 107 (by decide +kernel) rfl
set_option maxRecDepth 100000 in
theorem wd_109 : (.code yX0_init cX0_init 1 none : Cond) ∈ big := mb 109 rfl rfl
theorem wd_110 : (.methodLink RX0 1 objectInit : Cond) ∈ big := mb 110 (by decide +kernel) rfl
theorem wd_111 : (.fieldLink RX0 7 "RvCore$Controls" "interruptsOn" "Z" : Cond) ∈ big := mb 111 (by decide +kernel) rfl
theorem wd_112 : (.fieldLinkNest RX4 121 "RvCore$Controls" "interruptsOn" "Z" "RvCore" : Cond) ∈ big := mb 112 (by decide +kernel) rfl
theorem wd_113 : (.fieldLink RX0 13 "RvCore$Controls" "interruptsWereOn" "Z" : Cond) ∈ big := mb 113 (by decide +kernel) rfl
theorem wd_114 : (.fieldLink RX0 16 "RvCore$Controls" "enabled" "I" : Cond) ∈ big := mb 114 (by decide +kernel) rfl
theorem wd_115 : (.fieldLink RX0 20 "RvCore$Controls" "vector" "I" : Cond) ∈ big := mb 115 (by decide +kernel) rfl
theorem wd_116 : (.fieldLink RX0 23 "RvCore$Controls" "scratch" "I" : Cond) ∈ big := mb 116 (by decide +kernel) rfl
theorem wd_117 : (.fieldLink RX0 26 "RvCore$Controls" "wayBack" "I" : Cond) ∈ big := mb 117 (by decide +kernel) rfl
theorem wd_118 : (.fieldLink RX0 29 "RvCore$Controls" "cause" "I" : Cond) ∈ big := mb 118 (by decide +kernel) rfl
theorem wd_119 : (.fieldLink RX0 32 "RvCore$Controls" "value" "I" : Cond) ∈ big := mb 119 (by decide +kernel) rfl
theorem wd_137 : (.methodLink RX4 53 yX4_reset : Cond) ∈ big := mb 137 (by decide +kernel) rfl
theorem wd_138 : (.instanceMethod yX4_reset : Cond) ∈ big := mb 138 (by decide +kernel) rfl
theorem wd_139 : (.selects RX4 yX4_reset yX4_reset : Cond) ∈ big := mb 139 (by decide +kernel) rfl
set_option maxRecDepth 100000 in
theorem wd_140 : (.code yX4_reset cX4_reset 2 none : Cond) ∈ big := mb 140 rfl rfl
theorem wd_141 : (.methodLink RX4 71 yX3_restart : Cond) ∈ big := mb 141 (by decide +kernel) rfl
theorem wd_142 : (.instanceMethod yX3_restart : Cond) ∈ big := mb 142 (by decide +kernel) rfl
theorem wd_143 : (.selects RX3 yX3_restart yX3_restart : Cond) ∈ big := mb 143 (by decide +kernel) rfl
set_option maxRecDepth 100000 in
theorem wd_144 : (.code yX3_restart cX3_restart 1 none : Cond) ∈ big := mb 144 rfl rfl
theorem wd_145 : (.constantLong RX3 13 (-1) : Cond) ∈ big := mb 145 (by decide +kernel) rfl
theorem wd_146 : (.methodLink RX4 74 yX2_restart : Cond) ∈ big := mb 146 (by decide +kernel) rfl
theorem wd_147 : (.instanceMethod yX2_restart : Cond) ∈ big := mb 147 (by decide +kernel) rfl
theorem wd_148 : (.selects RX2 yX2_restart yX2_restart : Cond) ∈ big := mb 148 (by decide +kernel) rfl
set_option maxRecDepth 100000 in
theorem wd_149 : (.code yX2_restart cX2_restart 1 none : Cond) ∈ big := mb 149 rfl rfl
theorem wd_150 : (.methodLink RX4 75 yX0_restart : Cond) ∈ big := mb 150 (by decide +kernel) rfl
theorem wd_151 : (.instanceMethod yX0_restart : Cond) ∈ big := mb 151 (by decide +kernel) rfl
theorem wd_152 : (.selects RX0 yX0_restart yX0_restart : Cond) ∈ big := mb 152 (by decide +kernel) rfl
set_option maxRecDepth 100000 in
theorem wd_153 : (.code yX0_restart cX0_restart 1 none : Cond) ∈ big := mb 153 rfl rfl
theorem wd_154 : (.fieldLink RX4 24 "RvCore" "memory" "LRvCore$Memory;" : Cond) ∈ big := mb 154 (by decide +kernel) rfl
theorem wd_155 : (.fieldLink RX4 31 "RvCore" "timer" "LRvCore$Timer;" : Cond) ∈ big := mb 155 (by decide +kernel) rfl
theorem wd_156 : (.fieldLink RX4 38 "RvCore" "port" "LRvCore$Port;" : Cond) ∈ big := mb 156 (by decide +kernel) rfl
theorem wd_157 : (.fieldLink RX4 45 "RvCore" "controls" "LRvCore$Controls;" : Cond) ∈ big := mb 157 (by decide +kernel) rfl
theorem wd_158 : (.fieldLink RX4 49 "RvCore" "x" "[I" : Cond) ∈ big := mb 158 (by decide +kernel) rfl
theorem wd_159 : (.fieldLink RX4 56 "RvCore" "place" "I" : Cond) ∈ big := mb 159 (by decide +kernel) rfl
theorem wd_160 : (.fieldLink RX4 60 "RvCore" "waiting" "Z" : Cond) ∈ big := mb 160 (by decide +kernel) rfl
theorem wd_161 : (.fieldLink RX4 64 "RvCore" "retired" "J" : Cond) ∈ big := mb 161 (by decide +kernel) rfl
theorem wd_162 : (.fieldLink RX4 68 "RvCore" "latest" "I" : Cond) ∈ big := mb 162 (by decide +kernel) rfl
theorem wd_182 : (.methodLink RL 21 yX4_reset : Cond) ∈ big := mb 182 (by decide +kernel) rfl
theorem wd_183 : (.methodLink RL 25 yX4_poke : Cond) ∈ big := mb 183 (by decide +kernel) rfl
theorem wd_184 : (.instanceMethod yX4_poke : Cond) ∈ big := mb 184 (by decide +kernel) rfl
theorem wd_185 : (.selects RX4 yX4_poke yX4_poke : Cond) ∈ big := mb 185 (by decide +kernel) rfl
set_option maxRecDepth 100000 in
theorem wd_186 : (.code yX4_poke cX4_poke 3 (some .boolean) : Cond) ∈ big := mb 186 rfl rfl
theorem wd_187 : (.methodLink RX4 76 yX1_holds : Cond) ∈ big := mb 187 (by decide +kernel) rfl
theorem wd_188 : (.instanceMethod yX1_holds : Cond) ∈ big := mb 188 (by decide +kernel) rfl
theorem wd_189 : (.selects RX1 yX1_holds yX1_holds : Cond) ∈ big := mb 189 (by decide +kernel) rfl
set_option maxRecDepth 100000 in
theorem wd_190 : (.code yX1_holds cX1_holds 2 (some .boolean) : Cond) ∈ big := mb 190 rfl rfl
theorem wd_191 : (.methodLink RX4 80 yX1_put : Cond) ∈ big := mb 191 (by decide +kernel) rfl
theorem wd_192 : (.instanceMethod yX1_put : Cond) ∈ big := mb 192 (by decide +kernel) rfl
theorem wd_193 : (.selects RX1 yX1_put yX1_put : Cond) ∈ big := mb 193 (by decide +kernel) rfl
set_option maxRecDepth 100000 in
theorem wd_194 : (.code yX1_put cX1_put 6 none : Cond) ∈ big := mb 194 rfl rfl
theorem wd_195 : (.methodLink RX1 17 yX1_mask : Cond) ∈ big := mb 195 (by decide +kernel) rfl
theorem wd_196 : (.static yX1_mask : Cond) ∈ big := mb 196 (by decide +kernel) rfl
set_option maxRecDepth 100000 in
theorem wd_197 : (.code yX1_mask cX1_mask 1 (some .int) : Cond) ∈ big := mb 197 rfl rfl
theorem wd_198 : (.methodLink RX1 13 yX1_shift : Cond) ∈ big := mb 198 (by decide +kernel) rfl
theorem wd_199 : (.static yX1_shift : Cond) ∈ big := mb 199 (by decide +kernel) rfl
set_option maxRecDepth 100000 in
theorem wd_200 : (.code yX1_shift cX1_shift 1 (some .int) : Cond) ∈ big := mb 200 rfl rfl
theorem wd_201 : (.methodLink RL 30 yX4_load : Cond) ∈ big := mb 201 (by decide +kernel) rfl
theorem wd_202 : (.instanceMethod yX4_load : Cond) ∈ big := mb 202 (by decide +kernel) rfl
theorem wd_203 : (.selects RX4 yX4_load yX4_load : Cond) ∈ big := mb 203 (by decide +kernel) rfl
set_option maxRecDepth 100000 in
theorem wd_204 : (.code yX4_load cX4_load 4 (some .boolean) : Cond) ∈ big := mb 204 rfl rfl
theorem wd_205 : (.methodLink RL 34 yX4_peek : Cond) ∈ big := mb 205 (by decide +kernel) rfl
theorem wd_206 : (.instanceMethod yX4_peek : Cond) ∈ big := mb 206 (by decide +kernel) rfl
theorem wd_207 : (.selects RX4 yX4_peek yX4_peek : Cond) ∈ big := mb 207 (by decide +kernel) rfl
set_option maxRecDepth 100000 in
theorem wd_208 : (.code yX4_peek cX4_peek 2 (some .int) : Cond) ∈ big := mb 208 rfl rfl
theorem wd_209 : (.methodLink RX4 84 yX1_get : Cond) ∈ big := mb 209 (by decide +kernel) rfl
theorem wd_210 : (.instanceMethod yX1_get : Cond) ∈ big := mb 210 (by decide +kernel) rfl
theorem wd_211 : (.selects RX1 yX1_get yX1_get : Cond) ∈ big := mb 211 (by decide +kernel) rfl
set_option maxRecDepth 100000 in
theorem wd_212 : (.code yX1_get cX1_get 3 (some .int) : Cond) ∈ big := mb 212 rfl rfl
theorem wd_213 : (.methodLink RL 39 yX4_step : Cond) ∈ big := mb 213 (by decide +kernel) rfl
theorem wd_214 : (.instanceMethod yX4_step : Cond) ∈ big := mb 214 (by decide +kernel) rfl
theorem wd_215 : (.selects RX4 yX4_step yX4_step : Cond) ∈ big := mb 215 (by decide +kernel) rfl
set_option maxRecDepth 100000 in
theorem wd_216 : (.code yX4_step cX4_step 1 (some .int) : Cond) ∈ big := mb 216 rfl rfl
theorem wd_217 : (.methodLink RX4 87 yX4_stepOnce : Cond) ∈ big := mb 217 (by decide +kernel) rfl
theorem wd_219 : (.instanceMethod yX4_stepOnce : Cond) ∈ big := mb 219 (by decide +kernel) rfl
set_option maxRecDepth 100000 in
theorem wd_220 : (.code yX4_stepOnce cX4_stepOnce 4 (some .int) : Cond) ∈ big := mb 220 rfl rfl
theorem wd_221 : (.methodLink RX4 118 yX0_timerEnabled : Cond) ∈ big := mb 221 (by decide +kernel) rfl
theorem wd_222 : (.instanceMethod yX0_timerEnabled : Cond) ∈ big := mb 222 (by decide +kernel) rfl
theorem wd_223 : (.selects RX0 yX0_timerEnabled yX0_timerEnabled : Cond) ∈ big := mb 223 (by decide +kernel) rfl
set_option maxRecDepth 100000 in
theorem wd_224 : (.code yX0_timerEnabled cX0_timerEnabled 1 (some .boolean) : Cond) ∈ big := mb 224 rfl rfl
theorem wd_225 : (.methodLink RX4 98 yX3_isDue : Cond) ∈ big := mb 225 (by decide +kernel) rfl
theorem wd_226 : (.instanceMethod yX3_isDue : Cond) ∈ big := mb 226 (by decide +kernel) rfl
theorem wd_227 : (.selects RX3 yX3_isDue yX3_isDue : Cond) ∈ big := mb 227 (by decide +kernel) rfl
set_option maxRecDepth 100000 in
theorem wd_228 : (.code yX3_isDue cX3_isDue 1 (some .boolean) : Cond) ∈ big := mb 228 rfl rfl
theorem wd_229 : (.methodLink RX3 18 yJ13_compareUnsigned_74951 : Cond) ∈ big := mb 229 (by decide +kernel) rfl
theorem wd_230 : (.static yJ13_compareUnsigned_74951 : Cond) ∈ big := mb 230 (by decide +kernel) rfl
set_option maxRecDepth 100000 in
theorem wd_231 : (.code yJ13_compareUnsigned_74951 cJ13_compareUnsigned_74951 4 (some .int) : Cond) ∈ big := mb 231 rfl rfl
theorem wd_232 : (.constantLong RJ13 168 (-9223372036854775808) : Cond) ∈ big := mb 232 (by decide +kernel) rfl
theorem wd_233 : (.methodLink RJ13 302 yJ13_compare_74951 : Cond) ∈ big := mb 233 (by decide +kernel) rfl
theorem wd_234 : (.static yJ13_compare_74951 : Cond) ∈ big := mb 234 (by decide +kernel) rfl
set_option maxRecDepth 100000 in
theorem wd_235 : (.code yJ13_compare_74951 cJ13_compare_74951 4 (some .int) : Cond) ∈ big := mb 235 rfl rfl
theorem wd_236 : (.constant RX4 124 (-2147483641) : Cond) ∈ big := mb 236 (by decide +kernel) rfl
theorem wd_237 : (.methodLink RX4 125 yX0_enter : Cond) ∈ big := mb 237 (by decide +kernel) rfl
theorem wd_238 : (.instanceMethod yX0_enter : Cond) ∈ big := mb 238 (by decide +kernel) rfl
theorem wd_239 : (.selects RX0 yX0_enter yX0_enter : Cond) ∈ big := mb 239 (by decide +kernel) rfl
set_option maxRecDepth 100000 in
theorem wd_240 : (.code yX0_enter cX0_enter 4 (some .int) : Cond) ∈ big := mb 240 rfl rfl
theorem wd_241 : (.methodLink RX4 129 yX0_hasOwnEntries : Cond) ∈ big := mb 241 (by decide +kernel) rfl
theorem wd_242 : (.instanceMethod yX0_hasOwnEntries : Cond) ∈ big := mb 242 (by decide +kernel) rfl
theorem wd_243 : (.selects RX0 yX0_hasOwnEntries yX0_hasOwnEntries : Cond) ∈ big := mb 243 (by decide +kernel) rfl
set_option maxRecDepth 100000 in
theorem wd_244 : (.code yX0_hasOwnEntries cX0_hasOwnEntries 1 (some .boolean) : Cond) ∈ big := mb 244 rfl rfl
theorem wd_245 : (.methodLink RX4 132 yX4_instruct : Cond) ∈ big := mb 245 (by decide +kernel) rfl
theorem wd_247 : (.instanceMethod yX4_instruct : Cond) ∈ big := mb 247 (by decide +kernel) rfl
set_option maxRecDepth 100000 in
theorem wd_248 : (.code yX4_instruct cX4_instruct 2 (some .int) : Cond) ∈ big := mb 248 rfl rfl
theorem wd_249 : (.methodLink RX4 135 yX4_trap : Cond) ∈ big := mb 249 (by decide +kernel) rfl
theorem wd_251 : (.instanceMethod yX4_trap : Cond) ∈ big := mb 251 (by decide +kernel) rfl
set_option maxRecDepth 100000 in
theorem wd_252 : (.code yX4_trap cX4_trap 3 (some .int) : Cond) ∈ big := mb 252 rfl rfl
theorem wd_253 : (.methodLink RX4 138 yX4_retire : Cond) ∈ big := mb 253 (by decide +kernel) rfl
theorem wd_255 : (.instanceMethod yX4_retire : Cond) ∈ big := mb 255 (by decide +kernel) rfl
set_option maxRecDepth 100000 in
theorem wd_256 : (.code yX4_retire cX4_retire 3 (some .int) : Cond) ∈ big := mb 256 rfl rfl
theorem wd_257 : (.methodLink RX4 183 yX4_setD : Cond) ∈ big := mb 257 (by decide +kernel) rfl
theorem wd_259 : (.instanceMethod yX4_setD : Cond) ∈ big := mb 259 (by decide +kernel) rfl
set_option maxRecDepth 100000 in
theorem wd_260 : (.code yX4_setD cX4_setD 4 none : Cond) ∈ big := mb 260 rfl rfl
theorem wd_261 : (.methodLink RX4 174 yX4_retireAt : Cond) ∈ big := mb 261 (by decide +kernel) rfl
theorem wd_263 : (.instanceMethod yX4_retireAt : Cond) ∈ big := mb 263 (by decide +kernel) rfl
set_option maxRecDepth 100000 in
theorem wd_264 : (.code yX4_retireAt cX4_retireAt 2 (some .int) : Cond) ∈ big := mb 264 rfl rfl
theorem wd_265 : (.methodLink RX4 141 yX4_offsetJ : Cond) ∈ big := mb 265 (by decide +kernel) rfl
theorem wd_266 : (.static yX4_offsetJ : Cond) ∈ big := mb 266 (by decide +kernel) rfl
set_option maxRecDepth 100000 in
theorem wd_267 : (.code yX4_offsetJ cX4_offsetJ 1 (some .int) : Cond) ∈ big := mb 267 rfl rfl
theorem wd_268 : (.constant RX4 187 (1044480) : Cond) ∈ big := mb 268 (by decide +kernel) rfl
theorem wd_269 : (.methodLink RX4 144 yX4_jump : Cond) ∈ big := mb 269 (by decide +kernel) rfl
theorem wd_271 : (.instanceMethod yX4_jump : Cond) ∈ big := mb 271 (by decide +kernel) rfl
set_option maxRecDepth 100000 in
theorem wd_272 : (.code yX4_jump cX4_jump 3 (some .int) : Cond) ∈ big := mb 272 rfl rfl
theorem wd_273 : (.methodLink RX4 147 yX4_f : Cond) ∈ big := mb 273 (by decide +kernel) rfl
theorem wd_274 : (.static yX4_f : Cond) ∈ big := mb 274 (by decide +kernel) rfl
set_option maxRecDepth 100000 in
theorem wd_275 : (.code yX4_f cX4_f 1 (some .int) : Cond) ∈ big := mb 275 rfl rfl
theorem wd_276 : (.methodLink RX4 150 yX4_a : Cond) ∈ big := mb 276 (by decide +kernel) rfl
theorem wd_278 : (.instanceMethod yX4_a : Cond) ∈ big := mb 278 (by decide +kernel) rfl
set_option maxRecDepth 100000 in
theorem wd_279 : (.code yX4_a cX4_a 2 (some .int) : Cond) ∈ big := mb 279 rfl rfl
theorem wd_280 : (.methodLink RX4 188 yX4_s : Cond) ∈ big := mb 280 (by decide +kernel) rfl
theorem wd_281 : (.static yX4_s : Cond) ∈ big := mb 281 (by decide +kernel) rfl
set_option maxRecDepth 100000 in
theorem wd_282 : (.code yX4_s cX4_s 1 (some .int) : Cond) ∈ big := mb 282 rfl rfl
theorem wd_283 : (.methodLink RX4 153 yX4_offsetI : Cond) ∈ big := mb 283 (by decide +kernel) rfl
theorem wd_284 : (.static yX4_offsetI : Cond) ∈ big := mb 284 (by decide +kernel) rfl
set_option maxRecDepth 100000 in
theorem wd_285 : (.code yX4_offsetI cX4_offsetI 1 (some .int) : Cond) ∈ big := mb 285 rfl rfl
theorem wd_286 : (.methodLink RX4 156 yX4_illegal : Cond) ∈ big := mb 286 (by decide +kernel) rfl
theorem wd_288 : (.instanceMethod yX4_illegal : Cond) ∈ big := mb 288 (by decide +kernel) rfl
set_option maxRecDepth 100000 in
theorem wd_289 : (.code yX4_illegal cX4_illegal 2 (some .int) : Cond) ∈ big := mb 289 rfl rfl
theorem wd_290 : (.methodLink RX4 159 yX4_branch : Cond) ∈ big := mb 290 (by decide +kernel) rfl
theorem wd_292 : (.instanceMethod yX4_branch : Cond) ∈ big := mb 292 (by decide +kernel) rfl
set_option maxRecDepth 100000 in
theorem wd_293 : (.code yX4_branch cX4_branch 5 (some .int) : Cond) ∈ big := mb 293 rfl rfl
theorem wd_294 : (.methodLink RX4 191 yX4_b : Cond) ∈ big := mb 294 (by decide +kernel) rfl
theorem wd_296 : (.instanceMethod yX4_b : Cond) ∈ big := mb 296 (by decide +kernel) rfl
set_option maxRecDepth 100000 in
theorem wd_297 : (.code yX4_b cX4_b 2 (some .int) : Cond) ∈ big := mb 297 rfl rfl
theorem wd_298 : (.methodLink RX4 194 yX4_compares : Cond) ∈ big := mb 298 (by decide +kernel) rfl
theorem wd_299 : (.static yX4_compares : Cond) ∈ big := mb 299 (by decide +kernel) rfl
set_option maxRecDepth 100000 in
theorem wd_300 : (.code yX4_compares cX4_compares 3 (some .boolean) : Cond) ∈ big := mb 300 rfl rfl
theorem wd_301 : (.methodLink RX4 201 yX4_belowUnsigned : Cond) ∈ big := mb 301 (by decide +kernel) rfl
theorem wd_302 : (.static yX4_belowUnsigned : Cond) ∈ big := mb 302 (by decide +kernel) rfl
set_option maxRecDepth 100000 in
theorem wd_303 : (.code yX4_belowUnsigned cX4_belowUnsigned 2 (some .boolean) : Cond) ∈ big := mb 303 rfl rfl
theorem wd_304 : (.methodLink RX4 205 yJ6_compareUnsigned_7cf53 : Cond) ∈ big := mb 304 (by decide +kernel) rfl
theorem wd_305 : (.static yJ6_compareUnsigned_7cf53 : Cond) ∈ big := mb 305 (by decide +kernel) rfl
set_option maxRecDepth 100000 in
theorem wd_306 : (.code yJ6_compareUnsigned_7cf53 cJ6_compareUnsigned_7cf53 2 (some .int) : Cond) ∈ big := mb 306 rfl rfl
theorem wd_307 : (.constant RJ6 127 (-2147483648) : Cond) ∈ big := mb 307 (by decide +kernel) rfl
theorem wd_308 : (.methodLink RJ6 259 yJ6_compare_7cf53 : Cond) ∈ big := mb 308 (by decide +kernel) rfl
theorem wd_309 : (.static yJ6_compare_7cf53 : Cond) ∈ big := mb 309 (by decide +kernel) rfl
set_option maxRecDepth 100000 in
theorem wd_310 : (.code yJ6_compare_7cf53 cJ6_compare_7cf53 2 (some .int) : Cond) ∈ big := mb 310 rfl rfl
theorem wd_311 : (.methodLink RX4 198 yX4_offsetB : Cond) ∈ big := mb 311 (by decide +kernel) rfl
theorem wd_312 : (.static yX4_offsetB : Cond) ∈ big := mb 312 (by decide +kernel) rfl
set_option maxRecDepth 100000 in
theorem wd_313 : (.code yX4_offsetB cX4_offsetB 1 (some .int) : Cond) ∈ big := mb 313 rfl rfl
theorem wd_314 : (.methodLink RX4 162 yX4_read : Cond) ∈ big := mb 314 (by decide +kernel) rfl
theorem wd_316 : (.instanceMethod yX4_read : Cond) ∈ big := mb 316 (by decide +kernel) rfl
set_option maxRecDepth 100000 in
theorem wd_317 : (.code yX4_read cX4_read 5 (some .int) : Cond) ∈ big := mb 317 rfl rfl
theorem wd_318 : (.methodLink RX4 210 yX4_extended : Cond) ∈ big := mb 318 (by decide +kernel) rfl
theorem wd_319 : (.static yX4_extended : Cond) ∈ big := mb 319 (by decide +kernel) rfl
set_option maxRecDepth 100000 in
theorem wd_320 : (.code yX4_extended cX4_extended 2 (some .int) : Cond) ∈ big := mb 320 rfl rfl
theorem wd_321 : (.methodLink RX4 213 yX3_holds : Cond) ∈ big := mb 321 (by decide +kernel) rfl
theorem wd_322 : (.static yX3_holds : Cond) ∈ big := mb 322 (by decide +kernel) rfl
set_option maxRecDepth 100000 in
theorem wd_323 : (.code yX3_holds cX3_holds 1 (some .boolean) : Cond) ∈ big := mb 323 rfl rfl
theorem wd_324 : (.constant RX3 24 (33603576) : Cond) ∈ big := mb 324 (by decide +kernel) rfl
theorem wd_325 : (.constant RX3 25 (33603580) : Cond) ∈ big := mb 325 (by decide +kernel) rfl
theorem wd_326 : (.constant RX3 26 (33570816) : Cond) ∈ big := mb 326 (by decide +kernel) rfl
theorem wd_327 : (.constant RX3 27 (33570820) : Cond) ∈ big := mb 327 (by decide +kernel) rfl
theorem wd_328 : (.methodLink RX4 214 yX3_half : Cond) ∈ big := mb 328 (by decide +kernel) rfl
theorem wd_329 : (.instanceMethod yX3_half : Cond) ∈ big := mb 329 (by decide +kernel) rfl
theorem wd_330 : (.selects RX3 yX3_half yX3_half : Cond) ∈ big := mb 330 (by decide +kernel) rfl
set_option maxRecDepth 100000 in
theorem wd_331 : (.code yX3_half cX3_half 4 (some .int) : Cond) ∈ big := mb 331 rfl rfl
theorem wd_332 : (.methodLink RX3 28 yX3_isTime : Cond) ∈ big := mb 332 (by decide +kernel) rfl
theorem wd_333 : (.static yX3_isTime : Cond) ∈ big := mb 333 (by decide +kernel) rfl
set_option maxRecDepth 100000 in
theorem wd_334 : (.code yX3_isTime cX3_isTime 1 (some .boolean) : Cond) ∈ big := mb 334 rfl rfl
theorem wd_335 : (.methodLink RX3 32 yX3_isUpper : Cond) ∈ big := mb 335 (by decide +kernel) rfl
theorem wd_336 : (.static yX3_isUpper : Cond) ∈ big := mb 336 (by decide +kernel) rfl
set_option maxRecDepth 100000 in
theorem wd_337 : (.code yX3_isUpper cX3_isUpper 1 (some .boolean) : Cond) ∈ big := mb 337 rfl rfl
theorem wd_338 : (.constant RX4 217 (268435456) : Cond) ∈ big := mb 338 (by decide +kernel) rfl
theorem wd_339 : (.methodLink RX4 218 yX2_room : Cond) ∈ big := mb 339 (by decide +kernel) rfl
theorem wd_340 : (.instanceMethod yX2_room : Cond) ∈ big := mb 340 (by decide +kernel) rfl
theorem wd_341 : (.selects RX2 yX2_room yX2_room : Cond) ∈ big := mb 341 (by decide +kernel) rfl
set_option maxRecDepth 100000 in
theorem wd_342 : (.code yX2_room cX2_room 1 (some .int) : Cond) ∈ big := mb 342 rfl rfl
theorem wd_343 : (.methodLink RX4 165 yX4_store : Cond) ∈ big := mb 343 (by decide +kernel) rfl
theorem wd_345 : (.instanceMethod yX4_store : Cond) ∈ big := mb 345 (by decide +kernel) rfl
set_option maxRecDepth 100000 in
theorem wd_346 : (.code yX4_store cX4_store 5 (some .int) : Cond) ∈ big := mb 346 rfl rfl
theorem wd_347 : (.methodLink RX4 221 yX4_offsetS : Cond) ∈ big := mb 347 (by decide +kernel) rfl
theorem wd_348 : (.static yX4_offsetS : Cond) ∈ big := mb 348 (by decide +kernel) rfl
set_option maxRecDepth 100000 in
theorem wd_349 : (.code yX4_offsetS cX4_offsetS 1 (some .int) : Cond) ∈ big := mb 349 rfl rfl
theorem wd_350 : (.methodLink RX4 224 yX3_setHalf : Cond) ∈ big := mb 350 (by decide +kernel) rfl
theorem wd_351 : (.instanceMethod yX3_setHalf : Cond) ∈ big := mb 351 (by decide +kernel) rfl
theorem wd_352 : (.selects RX3 yX3_setHalf yX3_setHalf : Cond) ∈ big := mb 352 (by decide +kernel) rfl
set_option maxRecDepth 100000 in
theorem wd_353 : (.code yX3_setHalf cX3_setHalf 3 none : Cond) ∈ big := mb 353 rfl rfl
theorem wd_354 : (.methodLink RX3 35 yX3_withHalf : Cond) ∈ big := mb 354 (by decide +kernel) rfl
theorem wd_355 : (.static yX3_withHalf : Cond) ∈ big := mb 355 (by decide +kernel) rfl
set_option maxRecDepth 100000 in
theorem wd_356 : (.code yX3_withHalf cX3_withHalf 4 (some .long) : Cond) ∈ big := mb 356 rfl rfl
theorem wd_357 : (.constantLong RX3 39 (4294967295) : Cond) ∈ big := mb 357 (by decide +kernel) rfl
theorem wd_358 : (.constantLong RX3 41 (-4294967296) : Cond) ∈ big := mb 358 (by decide +kernel) rfl
theorem wd_359 : (.methodLinkNest RX3 43 yX4_unsigned "RvCore" : Cond) ∈ big := mb 359 (by decide +kernel) rfl
theorem wd_360 : (.static yX4_unsigned : Cond) ∈ big := mb 360 (by decide +kernel) rfl
set_option maxRecDepth 100000 in
theorem wd_361 : (.code yX4_unsigned cX4_unsigned 1 (some .long) : Cond) ∈ big := mb 361 rfl rfl
theorem wd_362 : (.constantLong RX4 243 (4294967295) : Cond) ∈ big := mb 362 (by decide +kernel) rfl
theorem wd_363 : (.methodLink RX4 227 yX2_send : Cond) ∈ big := mb 363 (by decide +kernel) rfl
theorem wd_364 : (.instanceMethod yX2_send : Cond) ∈ big := mb 364 (by decide +kernel) rfl
theorem wd_365 : (.selects RX2 yX2_send yX2_send : Cond) ∈ big := mb 365 (by decide +kernel) rfl
set_option maxRecDepth 100000 in
theorem wd_366 : (.code yX2_send cX2_send 2 (some .boolean) : Cond) ∈ big := mb 366 rfl rfl
theorem wd_367 : (.methodLink RX4 168 yX4_reckonWithNumber : Cond) ∈ big := mb 367 (by decide +kernel) rfl
theorem wd_369 : (.instanceMethod yX4_reckonWithNumber : Cond) ∈ big := mb 369 (by decide +kernel) rfl
set_option maxRecDepth 100000 in
theorem wd_370 : (.code yX4_reckonWithNumber cX4_reckonWithNumber 5 (some .int) : Cond) ∈ big := mb 370 rfl rfl
theorem wd_371 : (.methodLink RX4 230 yX4_g : Cond) ∈ big := mb 371 (by decide +kernel) rfl
theorem wd_372 : (.static yX4_g : Cond) ∈ big := mb 372 (by decide +kernel) rfl
set_option maxRecDepth 100000 in
theorem wd_373 : (.code yX4_g cX4_g 1 (some .int) : Cond) ∈ big := mb 373 rfl rfl
theorem wd_374 : (.methodLink RX4 233 yX4_reckoned : Cond) ∈ big := mb 374 (by decide +kernel) rfl
theorem wd_375 : (.static yX4_reckoned : Cond) ∈ big := mb 375 (by decide +kernel) rfl
set_option maxRecDepth 100000 in
theorem wd_376 : (.code yX4_reckoned cX4_reckoned 4 (some .int) : Cond) ∈ big := mb 376 rfl rfl
theorem wd_377 : (.methodLink RX4 171 yX4_reckonWithRegister : Cond) ∈ big := mb 377 (by decide +kernel) rfl
theorem wd_379 : (.instanceMethod yX4_reckonWithRegister : Cond) ∈ big := mb 379 (by decide +kernel) rfl
set_option maxRecDepth 100000 in
theorem wd_380 : (.code yX4_reckonWithRegister cX4_reckonWithRegister 6 (some .int) : Cond) ∈ big := mb 380 rfl rfl
theorem wd_381 : (.methodLink RX4 237 yX4_product : Cond) ∈ big := mb 381 (by decide +kernel) rfl
theorem wd_382 : (.static yX4_product : Cond) ∈ big := mb 382 (by decide +kernel) rfl
set_option maxRecDepth 100000 in
theorem wd_383 : (.code yX4_product cX4_product 3 (some .int) : Cond) ∈ big := mb 383 rfl rfl
theorem wd_384 : (.methodLink RX4 245 yX4_unsigned : Cond) ∈ big := mb 384 (by decide +kernel) rfl
theorem wd_385 : (.methodLink RX4 240 yX4_divided : Cond) ∈ big := mb 385 (by decide +kernel) rfl
theorem wd_386 : (.static yX4_divided : Cond) ∈ big := mb 386 (by decide +kernel) rfl
set_option maxRecDepth 100000 in
theorem wd_387 : (.code yX4_divided cX4_divided 9 (some .int) : Cond) ∈ big := mb 387 rfl rfl
theorem wd_388 : (.methodLink RX4 177 yX4_system : Cond) ∈ big := mb 388 (by decide +kernel) rfl
theorem wd_390 : (.instanceMethod yX4_system : Cond) ∈ big := mb 390 (by decide +kernel) rfl
set_option maxRecDepth 100000 in
theorem wd_391 : (.code yX4_system cX4_system 2 (some .int) : Cond) ∈ big := mb 391 rfl rfl
theorem wd_392 : (.methodLink RX4 249 yX0_leave : Cond) ∈ big := mb 392 (by decide +kernel) rfl
theorem wd_393 : (.instanceMethod yX0_leave : Cond) ∈ big := mb 393 (by decide +kernel) rfl
theorem wd_394 : (.selects RX0 yX0_leave yX0_leave : Cond) ∈ big := mb 394 (by decide +kernel) rfl
set_option maxRecDepth 100000 in
theorem wd_395 : (.code yX0_leave cX0_leave 1 (some .int) : Cond) ∈ big := mb 395 rfl rfl
theorem wd_396 : (.methodLink RX4 180 yX4_control : Cond) ∈ big := mb 396 (by decide +kernel) rfl
theorem wd_398 : (.instanceMethod yX4_control : Cond) ∈ big := mb 398 (by decide +kernel) rfl
set_option maxRecDepth 100000 in
theorem wd_399 : (.code yX4_control cX4_control 8 (some .int) : Cond) ∈ big := mb 399 rfl rfl
theorem wd_400 : (.methodLink RX4 95 yX0_lists : Cond) ∈ big := mb 400 (by decide +kernel) rfl
theorem wd_401 : (.static yX0_lists : Cond) ∈ big := mb 401 (by decide +kernel) rfl
set_option maxRecDepth 100000 in
theorem wd_402 : (.code yX0_lists cX0_lists 1 (some .boolean) : Cond) ∈ big := mb 402 rfl rfl
theorem wd_403 : (.methodLink RX4 102 yX0_get : Cond) ∈ big := mb 403 (by decide +kernel) rfl
theorem wd_404 : (.instanceMethod yX0_get : Cond) ∈ big := mb 404 (by decide +kernel) rfl
theorem wd_405 : (.selects RX0 yX0_get yX0_get : Cond) ∈ big := mb 405 (by decide +kernel) rfl
set_option maxRecDepth 100000 in
theorem wd_406 : (.code yX0_get cX0_get 3 (some .int) : Cond) ∈ big := mb 406 rfl rfl
theorem wd_407 : (.constant RX0 35 (1073746176) : Cond) ∈ big := mb 407 (by decide +kernel) rfl
theorem wd_408 : (.methodLink RX4 252 yX0_set : Cond) ∈ big := mb 408 (by decide +kernel) rfl
theorem wd_409 : (.instanceMethod yX0_set : Cond) ∈ big := mb 409 (by decide +kernel) rfl
theorem wd_410 : (.selects RX0 yX0_set yX0_set : Cond) ∈ big := mb 410 (by decide +kernel) rfl
set_option maxRecDepth 100000 in
theorem wd_411 : (.code yX0_set cX0_set 3 none : Cond) ∈ big := mb 411 rfl rfl
theorem wd_412 : (.constant RX0 36 (-2147483633) : Cond) ∈ big := mb 412 (by decide +kernel) rfl
theorem wd_413 : (.methodLink RL 44 yX4_run : Cond) ∈ big := mb 413 (by decide +kernel) rfl
theorem wd_414 : (.instanceMethod yX4_run : Cond) ∈ big := mb 414 (by decide +kernel) rfl
theorem wd_415 : (.selects RX4 yX4_run yX4_run : Cond) ∈ big := mb 415 (by decide +kernel) rfl
set_option maxRecDepth 100000 in
theorem wd_416 : (.code yX4_run cX4_run 3 (some .int) : Cond) ∈ big := mb 416 rfl rfl
theorem wd_418 : (.methodLink RX4 92 yX3_advance : Cond) ∈ big := mb 418 (by decide +kernel) rfl
theorem wd_419 : (.instanceMethod yX3_advance : Cond) ∈ big := mb 419 (by decide +kernel) rfl
theorem wd_420 : (.selects RX3 yX3_advance yX3_advance : Cond) ∈ big := mb 420 (by decide +kernel) rfl
set_option maxRecDepth 100000 in
theorem wd_421 : (.code yX3_advance cX3_advance 1 none : Cond) ∈ big := mb 421 rfl rfl
theorem wd_422 : (.methodLink RL 48 yX4_tick : Cond) ∈ big := mb 422 (by decide +kernel) rfl
theorem wd_423 : (.instanceMethod yX4_tick : Cond) ∈ big := mb 423 (by decide +kernel) rfl
theorem wd_424 : (.selects RX4 yX4_tick yX4_tick : Cond) ∈ big := mb 424 (by decide +kernel) rfl
set_option maxRecDepth 100000 in
theorem wd_425 : (.code yX4_tick cX4_tick 1 none : Cond) ∈ big := mb 425 rfl rfl
theorem wd_426 : (.methodLink RL 52 yX4_reg : Cond) ∈ big := mb 426 (by decide +kernel) rfl
theorem wd_427 : (.instanceMethod yX4_reg : Cond) ∈ big := mb 427 (by decide +kernel) rfl
theorem wd_428 : (.selects RX4 yX4_reg yX4_reg : Cond) ∈ big := mb 428 (by decide +kernel) rfl
set_option maxRecDepth 100000 in
theorem wd_429 : (.code yX4_reg cX4_reg 2 (some .int) : Cond) ∈ big := mb 429 rfl rfl
theorem wd_430 : (.methodLink RL 56 yX4_pc : Cond) ∈ big := mb 430 (by decide +kernel) rfl
theorem wd_431 : (.instanceMethod yX4_pc : Cond) ∈ big := mb 431 (by decide +kernel) rfl
theorem wd_432 : (.selects RX4 yX4_pc yX4_pc : Cond) ∈ big := mb 432 (by decide +kernel) rfl
set_option maxRecDepth 100000 in
theorem wd_433 : (.code yX4_pc cX4_pc 1 (some .int) : Cond) ∈ big := mb 433 rfl rfl
theorem wd_434 : (.methodLink RL 60 yX4_csr : Cond) ∈ big := mb 434 (by decide +kernel) rfl
theorem wd_435 : (.instanceMethod yX4_csr : Cond) ∈ big := mb 435 (by decide +kernel) rfl
theorem wd_436 : (.selects RX4 yX4_csr yX4_csr : Cond) ∈ big := mb 436 (by decide +kernel) rfl
set_option maxRecDepth 100000 in
theorem wd_437 : (.code yX4_csr cX4_csr 2 (some .int) : Cond) ∈ big := mb 437 rfl rfl
theorem wd_438 : (.methodLink RL 64 yX4_told : Cond) ∈ big := mb 438 (by decide +kernel) rfl
theorem wd_439 : (.instanceMethod yX4_told : Cond) ∈ big := mb 439 (by decide +kernel) rfl
theorem wd_440 : (.selects RX4 yX4_told yX4_told : Cond) ∈ big := mb 440 (by decide +kernel) rfl
set_option maxRecDepth 100000 in
theorem wd_441 : (.code yX4_told cX4_told 2 (some .long) : Cond) ∈ big := mb 441 rfl rfl
theorem wd_442 : (.methodLink RL 69 yX4_outSize : Cond) ∈ big := mb 442 (by decide +kernel) rfl
theorem wd_443 : (.instanceMethod yX4_outSize : Cond) ∈ big := mb 443 (by decide +kernel) rfl
theorem wd_444 : (.selects RX4 yX4_outSize yX4_outSize : Cond) ∈ big := mb 444 (by decide +kernel) rfl
set_option maxRecDepth 100000 in
theorem wd_445 : (.code yX4_outSize cX4_outSize 1 (some .int) : Cond) ∈ big := mb 445 rfl rfl
theorem wd_446 : (.methodLink RL 73 yX4_out : Cond) ∈ big := mb 446 (by decide +kernel) rfl
theorem wd_447 : (.instanceMethod yX4_out : Cond) ∈ big := mb 447 (by decide +kernel) rfl
theorem wd_448 : (.selects RX4 yX4_out yX4_out : Cond) ∈ big := mb 448 (by decide +kernel) rfl
set_option maxRecDepth 100000 in
theorem wd_449 : (.code yX4_out cX4_out 2 (some .int) : Cond) ∈ big := mb 449 rfl rfl
theorem wd_450 : (.methodLink RX4 114 yX2_byteAt : Cond) ∈ big := mb 450 (by decide +kernel) rfl
theorem wd_451 : (.instanceMethod yX2_byteAt : Cond) ∈ big := mb 451 (by decide +kernel) rfl
theorem wd_452 : (.selects RX2 yX2_byteAt yX2_byteAt : Cond) ∈ big := mb 452 (by decide +kernel) rfl
set_option maxRecDepth 100000 in
theorem wd_453 : (.code yX2_byteAt cX2_byteAt 2 (some .int) : Cond) ∈ big := mb 453 rfl rfl
theorem wd_454 : (.methodLink RL 9 yL_cell : Cond) ∈ big := mb 454 (by decide +kernel) rfl
theorem wd_455 : (.static yL_cell : Cond) ∈ big := mb 455 (by decide +kernel) rfl
set_option maxRecDepth 100000 in
theorem wd_456 : (.code yL_cell cL_cell 2 (some .int) : Cond) ∈ big := mb 456 rfl rfl
theorem wd_459 : (.methodLink RL 20 yX5_init : Cond) ∈ big := mb 459 (by decide +kernel) rfl
set_option maxRecDepth 100000 in
theorem wd_461 : (.code yX5_init cX5_init 4 none : Cond) ∈ big := mb 461 rfl rfl
theorem wd_462 : (.methodLink RX5 1 objectInit : Cond) ∈ big := mb 462 (by decide +kernel) rfl
theorem wd_464 : (.methodLink RX5 27 yX5_reset : Cond) ∈ big := mb 464 (by decide +kernel) rfl
theorem wd_465 : (.instanceMethod yX5_reset : Cond) ∈ big := mb 465 (by decide +kernel) rfl
theorem wd_466 : (.selects RX5 yX5_reset yX5_reset : Cond) ∈ big := mb 466 (by decide +kernel) rfl
set_option maxRecDepth 100000 in
theorem wd_467 : (.code yX5_reset cX5_reset 2 none : Cond) ∈ big := mb 467 rfl rfl
theorem wd_469 : (.fieldLink RX5 20 "RvCoreModel" "size" "I" : Cond) ∈ big := mb 469 (by decide +kernel) rfl
theorem wd_470 : (.fieldLink RX5 24 "RvCoreModel" "most" "I" : Cond) ∈ big := mb 470 (by decide +kernel) rfl
theorem wd_471 : (.fieldLink RX5 8 "RvCoreModel" "memory" "[I" : Cond) ∈ big := mb 471 (by decide +kernel) rfl
theorem wd_472 : (.fieldLink RX5 14 "RvCoreModel" "x" "[I" : Cond) ∈ big := mb 472 (by decide +kernel) rfl
theorem wd_473 : (.fieldLink RX5 30 "RvCoreModel" "pc" "I" : Cond) ∈ big := mb 473 (by decide +kernel) rfl
theorem wd_474 : (.fieldLink RX5 33 "RvCoreModel" "mie" "Z" : Cond) ∈ big := mb 474 (by decide +kernel) rfl
theorem wd_475 : (.fieldLink RX5 37 "RvCoreModel" "mpie" "Z" : Cond) ∈ big := mb 475 (by decide +kernel) rfl
theorem wd_476 : (.fieldLink RX5 40 "RvCoreModel" "mieBits" "I" : Cond) ∈ big := mb 476 (by decide +kernel) rfl
theorem wd_477 : (.fieldLink RX5 43 "RvCoreModel" "mtvec" "I" : Cond) ∈ big := mb 477 (by decide +kernel) rfl
theorem wd_478 : (.fieldLink RX5 46 "RvCoreModel" "mscratch" "I" : Cond) ∈ big := mb 478 (by decide +kernel) rfl
theorem wd_479 : (.fieldLink RX5 49 "RvCoreModel" "mepc" "I" : Cond) ∈ big := mb 479 (by decide +kernel) rfl
theorem wd_480 : (.fieldLink RX5 52 "RvCoreModel" "mcause" "I" : Cond) ∈ big := mb 480 (by decide +kernel) rfl
theorem wd_481 : (.fieldLink RX5 55 "RvCoreModel" "mtval" "I" : Cond) ∈ big := mb 481 (by decide +kernel) rfl
theorem wd_482 : (.fieldLink RX5 58 "RvCoreModel" "time" "J" : Cond) ∈ big := mb 482 (by decide +kernel) rfl
theorem wd_483 : (.fieldLink RX5 64 "RvCoreModel" "limit" "J" : Cond) ∈ big := mb 483 (by decide +kernel) rfl
theorem wd_484 : (.fieldLink RX5 17 "RvCoreModel" "sent" "[I" : Cond) ∈ big := mb 484 (by decide +kernel) rfl
theorem wd_485 : (.fieldLink RX5 67 "RvCoreModel" "sentMany" "I" : Cond) ∈ big := mb 485 (by decide +kernel) rfl
theorem wd_486 : (.fieldLink RX5 70 "RvCoreModel" "retired" "J" : Cond) ∈ big := mb 486 (by decide +kernel) rfl
theorem wd_487 : (.fieldLink RX5 73 "RvCoreModel" "waits" "Z" : Cond) ∈ big := mb 487 (by decide +kernel) rfl
theorem wd_488 : (.fieldLink RX5 76 "RvCoreModel" "latest" "I" : Cond) ∈ big := mb 488 (by decide +kernel) rfl
theorem wd_489 : (.fieldLink RX5 118 "RvCoreModel" "word" "I" : Cond) ∈ big := mb 489 (by decide +kernel) rfl
theorem wd_490 : (.fieldLink RX5 124 "RvCoreModel" "d" "I" : Cond) ∈ big := mb 490 (by decide +kernel) rfl
theorem wd_491 : (.fieldLink RX5 127 "RvCoreModel" "f" "I" : Cond) ∈ big := mb 491 (by decide +kernel) rfl
theorem wd_492 : (.fieldLink RX5 130 "RvCoreModel" "s" "I" : Cond) ∈ big := mb 492 (by decide +kernel) rfl
theorem wd_493 : (.fieldLink RX5 133 "RvCoreModel" "t" "I" : Cond) ∈ big := mb 493 (by decide +kernel) rfl
theorem wd_494 : (.fieldLink RX5 136 "RvCoreModel" "g" "I" : Cond) ∈ big := mb 494 (by decide +kernel) rfl
theorem wd_495 : (.fieldLink RX5 139 "RvCoreModel" "next" "I" : Cond) ∈ big := mb 495 (by decide +kernel) rfl
theorem wd_551 : (.methodLink RL 24 yX5_reset : Cond) ∈ big := mb 551 (by decide +kernel) rfl
theorem wd_552 : (.methodLink RL 29 yX5_poke : Cond) ∈ big := mb 552 (by decide +kernel) rfl
theorem wd_553 : (.instanceMethod yX5_poke : Cond) ∈ big := mb 553 (by decide +kernel) rfl
theorem wd_554 : (.selects RX5 yX5_poke yX5_poke : Cond) ∈ big := mb 554 (by decide +kernel) rfl
set_option maxRecDepth 100000 in
theorem wd_555 : (.code yX5_poke cX5_poke 3 (some .boolean) : Cond) ∈ big := mb 555 rfl rfl
theorem wd_556 : (.methodLink RX5 79 yX5_isThere : Cond) ∈ big := mb 556 (by decide +kernel) rfl
theorem wd_558 : (.instanceMethod yX5_isThere : Cond) ∈ big := mb 558 (by decide +kernel) rfl
set_option maxRecDepth 100000 in
theorem wd_559 : (.code yX5_isThere cX5_isThere 3 (some .boolean) : Cond) ∈ big := mb 559 rfl rfl
theorem wd_560 : (.methodLink RL 33 yX5_load : Cond) ∈ big := mb 560 (by decide +kernel) rfl
theorem wd_561 : (.instanceMethod yX5_load : Cond) ∈ big := mb 561 (by decide +kernel) rfl
theorem wd_562 : (.selects RX5 yX5_load yX5_load : Cond) ∈ big := mb 562 (by decide +kernel) rfl
set_option maxRecDepth 100000 in
theorem wd_563 : (.code yX5_load cX5_load 3 (some .boolean) : Cond) ∈ big := mb 563 rfl rfl
theorem wd_564 : (.methodLink RX5 83 yX5_put : Cond) ∈ big := mb 564 (by decide +kernel) rfl
theorem wd_566 : (.instanceMethod yX5_put : Cond) ∈ big := mb 566 (by decide +kernel) rfl
set_option maxRecDepth 100000 in
theorem wd_567 : (.code yX5_put cX5_put 5 none : Cond) ∈ big := mb 567 rfl rfl
theorem wd_568 : (.methodLink RL 38 yX5_peek : Cond) ∈ big := mb 568 (by decide +kernel) rfl
theorem wd_569 : (.instanceMethod yX5_peek : Cond) ∈ big := mb 569 (by decide +kernel) rfl
theorem wd_570 : (.selects RX5 yX5_peek yX5_peek : Cond) ∈ big := mb 570 (by decide +kernel) rfl
set_option maxRecDepth 100000 in
theorem wd_571 : (.code yX5_peek cX5_peek 2 (some .int) : Cond) ∈ big := mb 571 rfl rfl
theorem wd_572 : (.methodLink RL 63 yX5_csr : Cond) ∈ big := mb 572 (by decide +kernel) rfl
theorem wd_573 : (.instanceMethod yX5_csr : Cond) ∈ big := mb 573 (by decide +kernel) rfl
theorem wd_574 : (.selects RX5 yX5_csr yX5_csr : Cond) ∈ big := mb 574 (by decide +kernel) rfl
set_option maxRecDepth 100000 in
theorem wd_575 : (.code yX5_csr cX5_csr 2 (some .int) : Cond) ∈ big := mb 575 rfl rfl
theorem wd_576 : (.constant RX5 89 (1073746176) : Cond) ∈ big := mb 576 (by decide +kernel) rfl
theorem wd_577 : (.methodLink RX5 90 yX5_isDue : Cond) ∈ big := mb 577 (by decide +kernel) rfl
theorem wd_579 : (.instanceMethod yX5_isDue : Cond) ∈ big := mb 579 (by decide +kernel) rfl
set_option maxRecDepth 100000 in
theorem wd_580 : (.code yX5_isDue cX5_isDue 1 (some .boolean) : Cond) ∈ big := mb 580 rfl rfl
theorem wd_581 : (.constantLong RX5 87 (-9223372036854775808) : Cond) ∈ big := mb 581 (by decide +kernel) rfl
theorem wd_582 : (.methodLink RL 43 yX5_step : Cond) ∈ big := mb 582 (by decide +kernel) rfl
theorem wd_583 : (.instanceMethod yX5_step : Cond) ∈ big := mb 583 (by decide +kernel) rfl
theorem wd_584 : (.selects RX5 yX5_step yX5_step : Cond) ∈ big := mb 584 (by decide +kernel) rfl
set_option maxRecDepth 100000 in
theorem wd_585 : (.code yX5_step cX5_step 1 (some .int) : Cond) ∈ big := mb 585 rfl rfl
theorem wd_586 : (.methodLink RX5 95 yX5_once : Cond) ∈ big := mb 586 (by decide +kernel) rfl
theorem wd_588 : (.instanceMethod yX5_once : Cond) ∈ big := mb 588 (by decide +kernel) rfl
set_option maxRecDepth 100000 in
theorem wd_589 : (.code yX5_once cX5_once 4 (some .int) : Cond) ∈ big := mb 589 rfl rfl
theorem wd_590 : (.methodLink RX5 99 yX5_csr : Cond) ∈ big := mb 590 (by decide +kernel) rfl
theorem wd_591 : (.constant RX5 103 (-2147483641) : Cond) ∈ big := mb 591 (by decide +kernel) rfl
theorem wd_592 : (.methodLink RX5 104 yX5_trap : Cond) ∈ big := mb 592 (by decide +kernel) rfl
theorem wd_594 : (.instanceMethod yX5_trap : Cond) ∈ big := mb 594 (by decide +kernel) rfl
set_option maxRecDepth 100000 in
theorem wd_595 : (.code yX5_trap cX5_trap 3 (some .int) : Cond) ∈ big := mb 595 rfl rfl
theorem wd_596 : (.methodLink RX5 108 yX5_instruction : Cond) ∈ big := mb 596 (by decide +kernel) rfl
theorem wd_598 : (.instanceMethod yX5_instruction : Cond) ∈ big := mb 598 (by decide +kernel) rfl
set_option maxRecDepth 100000 in
theorem wd_599 : (.code yX5_instruction cX5_instruction 2 (some .int) : Cond) ∈ big := mb 599 rfl rfl
theorem wd_600 : (.methodLink RX5 121 yX5_get : Cond) ∈ big := mb 600 (by decide +kernel) rfl
theorem wd_602 : (.instanceMethod yX5_get : Cond) ∈ big := mb 602 (by decide +kernel) rfl
set_option maxRecDepth 100000 in
theorem wd_603 : (.code yX5_get cX5_get 5 (some .int) : Cond) ∈ big := mb 603 rfl rfl
theorem wd_604 : (.methodLink RX5 142 yX5_work : Cond) ∈ big := mb 604 (by decide +kernel) rfl
theorem wd_606 : (.instanceMethod yX5_work : Cond) ∈ big := mb 606 (by decide +kernel) rfl
set_option maxRecDepth 100000 in
theorem wd_607 : (.code yX5_work cX5_work 2 (some .int) : Cond) ∈ big := mb 607 rfl rfl
theorem wd_608 : (.methodLink RX5 145 yX5_become : Cond) ∈ big := mb 608 (by decide +kernel) rfl
theorem wd_610 : (.instanceMethod yX5_become : Cond) ∈ big := mb 610 (by decide +kernel) rfl
set_option maxRecDepth 100000 in
theorem wd_611 : (.code yX5_become cX5_become 2 (some .int) : Cond) ∈ big := mb 611 rfl rfl
theorem wd_612 : (.constant RX5 148 (1044480) : Cond) ∈ big := mb 612 (by decide +kernel) rfl
theorem wd_613 : (.methodLink RX5 149 yX5_goTo : Cond) ∈ big := mb 613 (by decide +kernel) rfl
theorem wd_615 : (.instanceMethod yX5_goTo : Cond) ∈ big := mb 615 (by decide +kernel) rfl
set_option maxRecDepth 100000 in
theorem wd_616 : (.code yX5_goTo cX5_goTo 4 (some .int) : Cond) ∈ big := mb 616 rfl rfl
theorem wd_617 : (.methodLink RX5 153 yX5_immediate : Cond) ∈ big := mb 617 (by decide +kernel) rfl
theorem wd_619 : (.instanceMethod yX5_immediate : Cond) ∈ big := mb 619 (by decide +kernel) rfl
set_option maxRecDepth 100000 in
theorem wd_620 : (.code yX5_immediate cX5_immediate 1 (some .int) : Cond) ∈ big := mb 620 rfl rfl
theorem wd_621 : (.methodLink RX5 156 yX5_illegal : Cond) ∈ big := mb 621 (by decide +kernel) rfl
theorem wd_623 : (.instanceMethod yX5_illegal : Cond) ∈ big := mb 623 (by decide +kernel) rfl
set_option maxRecDepth 100000 in
theorem wd_624 : (.code yX5_illegal cX5_illegal 1 (some .int) : Cond) ∈ big := mb 624 rfl rfl
theorem wd_625 : (.methodLink RX5 159 yX5_branch : Cond) ∈ big := mb 625 (by decide +kernel) rfl
theorem wd_627 : (.instanceMethod yX5_branch : Cond) ∈ big := mb 627 (by decide +kernel) rfl
set_option maxRecDepth 100000 in
theorem wd_628 : (.code yX5_branch cX5_branch 5 (some .int) : Cond) ∈ big := mb 628 rfl rfl
theorem wd_629 : (.methodLink RX5 181 yX5_isBelow : Cond) ∈ big := mb 629 (by decide +kernel) rfl
theorem wd_630 : (.static yX5_isBelow : Cond) ∈ big := mb 630 (by decide +kernel) rfl
set_option maxRecDepth 100000 in
theorem wd_631 : (.code yX5_isBelow cX5_isBelow 2 (some .boolean) : Cond) ∈ big := mb 631 rfl rfl
theorem wd_632 : (.constant RX5 180 (-2147483648) : Cond) ∈ big := mb 632 (by decide +kernel) rfl
theorem wd_633 : (.methodLink RX5 162 yX5_read : Cond) ∈ big := mb 633 (by decide +kernel) rfl
theorem wd_635 : (.instanceMethod yX5_read : Cond) ∈ big := mb 635 (by decide +kernel) rfl
set_option maxRecDepth 100000 in
theorem wd_636 : (.code yX5_read cX5_read 4 (some .int) : Cond) ∈ big := mb 636 rfl rfl
theorem wd_637 : (.methodLink RX5 184 yX5_isDevice : Cond) ∈ big := mb 637 (by decide +kernel) rfl
theorem wd_638 : (.static yX5_isDevice : Cond) ∈ big := mb 638 (by decide +kernel) rfl
set_option maxRecDepth 100000 in
theorem wd_639 : (.code yX5_isDevice cX5_isDevice 1 (some .boolean) : Cond) ∈ big := mb 639 rfl rfl
theorem wd_640 : (.methodLink RX5 192 yX5_isClock : Cond) ∈ big := mb 640 (by decide +kernel) rfl
theorem wd_641 : (.static yX5_isClock : Cond) ∈ big := mb 641 (by decide +kernel) rfl
set_option maxRecDepth 100000 in
theorem wd_642 : (.code yX5_isClock cX5_isClock 1 (some .boolean) : Cond) ∈ big := mb 642 rfl rfl
theorem wd_643 : (.constant RX5 188 (33603576) : Cond) ∈ big := mb 643 (by decide +kernel) rfl
theorem wd_644 : (.constant RX5 189 (33603580) : Cond) ∈ big := mb 644 (by decide +kernel) rfl
theorem wd_645 : (.constant RX5 190 (33570816) : Cond) ∈ big := mb 645 (by decide +kernel) rfl
theorem wd_646 : (.constant RX5 191 (33570820) : Cond) ∈ big := mb 646 (by decide +kernel) rfl
theorem wd_647 : (.constant RX5 195 (268435456) : Cond) ∈ big := mb 647 (by decide +kernel) rfl
theorem wd_648 : (.methodLink RX5 165 yX5_store : Cond) ∈ big := mb 648 (by decide +kernel) rfl
theorem wd_650 : (.instanceMethod yX5_store : Cond) ∈ big := mb 650 (by decide +kernel) rfl
set_option maxRecDepth 100000 in
theorem wd_651 : (.code yX5_store cX5_store 5 (some .int) : Cond) ∈ big := mb 651 rfl rfl
theorem wd_652 : (.methodLink RX5 198 yX5_mixed : Cond) ∈ big := mb 652 (by decide +kernel) rfl
theorem wd_653 : (.static yX5_mixed : Cond) ∈ big := mb 653 (by decide +kernel) rfl
set_option maxRecDepth 100000 in
theorem wd_654 : (.code yX5_mixed cX5_mixed 4 (some .long) : Cond) ∈ big := mb 654 rfl rfl
theorem wd_655 : (.constantLong RX5 196 (4294967295) : Cond) ∈ big := mb 655 (by decide +kernel) rfl
theorem wd_656 : (.methodLink RX5 168 yX5_reckonBy : Cond) ∈ big := mb 656 (by decide +kernel) rfl
theorem wd_658 : (.instanceMethod yX5_reckonBy : Cond) ∈ big := mb 658 (by decide +kernel) rfl
set_option maxRecDepth 100000 in
theorem wd_659 : (.code yX5_reckonBy cX5_reckonBy 3 (some .int) : Cond) ∈ big := mb 659 rfl rfl
theorem wd_660 : (.methodLink RX5 202 yX5_reckon : Cond) ∈ big := mb 660 (by decide +kernel) rfl
theorem wd_662 : (.instanceMethod yX5_reckon : Cond) ∈ big := mb 662 (by decide +kernel) rfl
set_option maxRecDepth 100000 in
theorem wd_663 : (.code yX5_reckon cX5_reckon 3 (some .int) : Cond) ∈ big := mb 663 rfl rfl
theorem wd_664 : (.methodLink RX5 171 yX5_reckonTwo : Cond) ∈ big := mb 664 (by decide +kernel) rfl
theorem wd_666 : (.instanceMethod yX5_reckonTwo : Cond) ∈ big := mb 666 (by decide +kernel) rfl
set_option maxRecDepth 100000 in
theorem wd_667 : (.code yX5_reckonTwo cX5_reckonTwo 3 (some .int) : Cond) ∈ big := mb 667 rfl rfl
theorem wd_668 : (.methodLink RX5 205 yX5_multiplied : Cond) ∈ big := mb 668 (by decide +kernel) rfl
theorem wd_670 : (.instanceMethod yX5_multiplied : Cond) ∈ big := mb 670 (by decide +kernel) rfl
set_option maxRecDepth 100000 in
theorem wd_671 : (.code yX5_multiplied cX5_multiplied 7 (some .int) : Cond) ∈ big := mb 671 rfl rfl
theorem wd_672 : (.methodLink RX5 174 yX5_system : Cond) ∈ big := mb 672 (by decide +kernel) rfl
theorem wd_674 : (.instanceMethod yX5_system : Cond) ∈ big := mb 674 (by decide +kernel) rfl
set_option maxRecDepth 100000 in
theorem wd_675 : (.code yX5_system cX5_system 1 (some .int) : Cond) ∈ big := mb 675 rfl rfl
theorem wd_676 : (.methodLink RX5 177 yX5_control : Cond) ∈ big := mb 676 (by decide +kernel) rfl
theorem wd_678 : (.instanceMethod yX5_control : Cond) ∈ big := mb 678 (by decide +kernel) rfl
set_option maxRecDepth 100000 in
theorem wd_679 : (.code yX5_control cX5_control 6 (some .int) : Cond) ∈ big := mb 679 rfl rfl
theorem wd_680 : (.methodLink RX5 208 yX5_isListed : Cond) ∈ big := mb 680 (by decide +kernel) rfl
theorem wd_681 : (.static yX5_isListed : Cond) ∈ big := mb 681 (by decide +kernel) rfl
set_option maxRecDepth 100000 in
theorem wd_682 : (.code yX5_isListed cX5_isListed 1 (some .boolean) : Cond) ∈ big := mb 682 rfl rfl
theorem wd_683 : (.methodLink RX5 211 yX5_setCsr : Cond) ∈ big := mb 683 (by decide +kernel) rfl
theorem wd_685 : (.instanceMethod yX5_setCsr : Cond) ∈ big := mb 685 (by decide +kernel) rfl
set_option maxRecDepth 100000 in
theorem wd_686 : (.code yX5_setCsr cX5_setCsr 3 none : Cond) ∈ big := mb 686 rfl rfl
theorem wd_687 : (.constant RX5 94 (-2147483633) : Cond) ∈ big := mb 687 (by decide +kernel) rfl
theorem wd_688 : (.methodLink RL 47 yX5_run : Cond) ∈ big := mb 688 (by decide +kernel) rfl
theorem wd_689 : (.instanceMethod yX5_run : Cond) ∈ big := mb 689 (by decide +kernel) rfl
theorem wd_690 : (.selects RX5 yX5_run yX5_run : Cond) ∈ big := mb 690 (by decide +kernel) rfl
set_option maxRecDepth 100000 in
theorem wd_691 : (.code yX5_run cX5_run 4 (some .int) : Cond) ∈ big := mb 691 rfl rfl
theorem wd_693 : (.methodLink RX5 112 yX5_step : Cond) ∈ big := mb 693 (by decide +kernel) rfl
theorem wd_694 : (.methodLink RX5 115 yX5_tick : Cond) ∈ big := mb 694 (by decide +kernel) rfl
theorem wd_695 : (.instanceMethod yX5_tick : Cond) ∈ big := mb 695 (by decide +kernel) rfl
theorem wd_696 : (.selects RX5 yX5_tick yX5_tick : Cond) ∈ big := mb 696 (by decide +kernel) rfl
set_option maxRecDepth 100000 in
theorem wd_697 : (.code yX5_tick cX5_tick 1 none : Cond) ∈ big := mb 697 rfl rfl
theorem wd_698 : (.methodLink RL 51 yX5_tick : Cond) ∈ big := mb 698 (by decide +kernel) rfl
theorem wd_699 : (.methodLink RL 55 yX5_reg : Cond) ∈ big := mb 699 (by decide +kernel) rfl
theorem wd_700 : (.instanceMethod yX5_reg : Cond) ∈ big := mb 700 (by decide +kernel) rfl
theorem wd_701 : (.selects RX5 yX5_reg yX5_reg : Cond) ∈ big := mb 701 (by decide +kernel) rfl
set_option maxRecDepth 100000 in
theorem wd_702 : (.code yX5_reg cX5_reg 2 (some .int) : Cond) ∈ big := mb 702 rfl rfl
theorem wd_703 : (.methodLink RL 59 yX5_pc : Cond) ∈ big := mb 703 (by decide +kernel) rfl
theorem wd_704 : (.instanceMethod yX5_pc : Cond) ∈ big := mb 704 (by decide +kernel) rfl
theorem wd_705 : (.selects RX5 yX5_pc yX5_pc : Cond) ∈ big := mb 705 (by decide +kernel) rfl
set_option maxRecDepth 100000 in
theorem wd_706 : (.code yX5_pc cX5_pc 1 (some .int) : Cond) ∈ big := mb 706 rfl rfl
theorem wd_707 : (.methodLink RL 68 yX5_told : Cond) ∈ big := mb 707 (by decide +kernel) rfl
theorem wd_708 : (.instanceMethod yX5_told : Cond) ∈ big := mb 708 (by decide +kernel) rfl
theorem wd_709 : (.selects RX5 yX5_told yX5_told : Cond) ∈ big := mb 709 (by decide +kernel) rfl
set_option maxRecDepth 100000 in
theorem wd_710 : (.code yX5_told cX5_told 2 (some .long) : Cond) ∈ big := mb 710 rfl rfl
theorem wd_711 : (.methodLink RL 72 yX5_outSize : Cond) ∈ big := mb 711 (by decide +kernel) rfl
theorem wd_712 : (.instanceMethod yX5_outSize : Cond) ∈ big := mb 712 (by decide +kernel) rfl
theorem wd_713 : (.selects RX5 yX5_outSize yX5_outSize : Cond) ∈ big := mb 713 (by decide +kernel) rfl
set_option maxRecDepth 100000 in
theorem wd_714 : (.code yX5_outSize cX5_outSize 1 (some .int) : Cond) ∈ big := mb 714 rfl rfl
theorem wd_715 : (.methodLink RL 76 yX5_out : Cond) ∈ big := mb 715 (by decide +kernel) rfl
theorem wd_716 : (.instanceMethod yX5_out : Cond) ∈ big := mb 716 (by decide +kernel) rfl
theorem wd_717 : (.selects RX5 yX5_out yX5_out : Cond) ∈ big := mb 717 (by decide +kernel) rfl
set_option maxRecDepth 100000 in
theorem wd_718 : (.code yX5_out cX5_out 2 (some .int) : Cond) ∈ big := mb 718 rfl rfl
theorem inX0 : ∀ w ∈ u_ws RX0 TX0 8, w ∈ big := in_big _ [120, 122, 124, 126, 128, 130, 132, 134] (by decide +kernel) (by decide +kernel)
theorem inX1 : ∀ w ∈ u_ws RX1 TX1 1, w ∈ big := in_big _ [71] (by decide +kernel) (by decide +kernel)
theorem inX2 : ∀ w ∈ u_ws RX2 TX2 2, w ∈ big := in_big _ [99, 101] (by decide +kernel) (by decide +kernel)
theorem inX3 : ∀ w ∈ u_ws RX3 TX3 2, w ∈ big := in_big _ [85, 87] (by decide +kernel) (by decide +kernel)
theorem inX4 : ∀ w ∈ u_ws RX4 TX4 9, w ∈ big := in_big _ [163, 165, 167, 169, 171, 173, 175, 177, 179] (by decide +kernel) (by decide +kernel)
theorem inX5 : ∀ w ∈ u_ws RX5 TX5 27, w ∈ big := in_big _ [496, 498, 500, 502, 504, 506, 508, 510, 512, 514, 516, 518, 520, 522, 524, 526, 528, 530, 532, 534, 536, 538, 540, 542, 544, 546, 548] (by decide +kernel) (by decide +kernel)
theorem ok_J13_compare_74951 : OkS yJ13_compare_74951 cJ13_compare_74951 4 (some .int) 2 := ⟨⟨wd_235, wd_47, by decide +kernel⟩, wd_234⟩
theorem ok_J13_compareUnsigned_74951 : OkS yJ13_compareUnsigned_74951 cJ13_compareUnsigned_74951 4 (some .int) 2 := ⟨⟨wd_231, wd_47, by decide +kernel⟩, wd_230⟩
theorem ok_J6_compare_7cf53 : OkS yJ6_compare_7cf53 cJ6_compare_7cf53 2 (some .int) 2 := ⟨⟨wd_310, wd_48, by decide +kernel⟩, wd_309⟩
theorem ok_J6_compareUnsigned_7cf53 : OkS yJ6_compareUnsigned_7cf53 cJ6_compareUnsigned_7cf53 2 (some .int) 2 := ⟨⟨wd_306, wd_48, by decide +kernel⟩, wd_305⟩
theorem ok_L_cell : OkS yL_cell cL_cell 2 (some .int) 2 := ⟨⟨wd_456, wd_39, by decide +kernel⟩, wd_455⟩
theorem ok_X0_get : OkV yX0_get cX0_get 3 (some .int) 2 := ⟨⟨wd_406, wd_45, by decide +kernel⟩, wd_404, wd_405⟩
theorem ok_X0_lists : OkS yX0_lists cX0_lists 1 (some .boolean) 1 := ⟨⟨wd_402, wd_45, by decide +kernel⟩, wd_401⟩
theorem ok_X3_isDue : OkV yX3_isDue cX3_isDue 1 (some .boolean) 0 := ⟨⟨wd_228, wd_43, by decide +kernel⟩, wd_226, wd_227⟩
theorem ok_X4_csr : OkV yX4_csr cX4_csr 2 (some .int) 1 := ⟨⟨wd_437, wd_40, by decide +kernel⟩, wd_435, wd_436⟩
theorem ok_X0_restart : OkV yX0_restart cX0_restart 1 none 0 := ⟨⟨wd_153, wd_45, by decide +kernel⟩, wd_151, wd_152⟩
theorem ok_X2_restart : OkV yX2_restart cX2_restart 1 none 0 := ⟨⟨wd_149, wd_44, by decide +kernel⟩, wd_147, wd_148⟩
theorem ok_X3_restart : OkV yX3_restart cX3_restart 1 none 0 := ⟨⟨wd_144, wd_43, by decide +kernel⟩, wd_142, wd_143⟩
theorem ok_X4_reset : OkV yX4_reset cX4_reset 2 none 0 := ⟨⟨wd_140, wd_40, by decide +kernel⟩, wd_138, wd_139⟩
theorem ok_X1_holds : OkV yX1_holds cX1_holds 2 (some .boolean) 1 := ⟨⟨wd_190, wd_41, by decide +kernel⟩, wd_188, wd_189⟩
theorem ok_X1_mask : OkS yX1_mask cX1_mask 1 (some .int) 1 := ⟨⟨wd_197, wd_41, by decide +kernel⟩, wd_196⟩
theorem ok_X1_shift : OkS yX1_shift cX1_shift 1 (some .int) 1 := ⟨⟨wd_200, wd_41, by decide +kernel⟩, wd_199⟩
theorem ok_X1_put : OkV yX1_put cX1_put 6 none 3 := ⟨⟨wd_194, wd_41, by decide +kernel⟩, wd_192, wd_193⟩
theorem ok_X4_load : OkV yX4_load cX4_load 4 (some .boolean) 2 := ⟨⟨wd_204, wd_40, by decide +kernel⟩, wd_202, wd_203⟩
theorem ok_X2_byteAt : OkV yX2_byteAt cX2_byteAt 2 (some .int) 1 := ⟨⟨wd_453, wd_44, by decide +kernel⟩, wd_451, wd_452⟩
theorem ok_X4_out : OkV yX4_out cX4_out 2 (some .int) 1 := ⟨⟨wd_449, wd_40, by decide +kernel⟩, wd_447, wd_448⟩
theorem ok_X4_outSize : OkV yX4_outSize cX4_outSize 1 (some .int) 0 := ⟨⟨wd_445, wd_40, by decide +kernel⟩, wd_443, wd_444⟩
theorem ok_X4_pc : OkV yX4_pc cX4_pc 1 (some .int) 0 := ⟨⟨wd_433, wd_40, by decide +kernel⟩, wd_431, wd_432⟩
theorem ok_X1_get : OkV yX1_get cX1_get 3 (some .int) 2 := ⟨⟨wd_212, wd_41, by decide +kernel⟩, wd_210, wd_211⟩
theorem ok_X4_peek : OkV yX4_peek cX4_peek 2 (some .int) 1 := ⟨⟨wd_208, wd_40, by decide +kernel⟩, wd_206, wd_207⟩
theorem ok_X4_poke : OkV yX4_poke cX4_poke 3 (some .boolean) 2 := ⟨⟨wd_186, wd_40, by decide +kernel⟩, wd_184, wd_185⟩
theorem ok_X4_reg : OkV yX4_reg cX4_reg 2 (some .int) 1 := ⟨⟨wd_429, wd_40, by decide +kernel⟩, wd_427, wd_428⟩
theorem ok_X3_advance : OkV yX3_advance cX3_advance 1 none 0 := ⟨⟨wd_421, wd_43, by decide +kernel⟩, wd_419, wd_420⟩
theorem ok_X0_enter : OkV yX0_enter cX0_enter 4 (some .int) 3 := ⟨⟨wd_240, wd_45, by decide +kernel⟩, wd_238, wd_239⟩
theorem ok_X0_hasOwnEntries : OkV yX0_hasOwnEntries cX0_hasOwnEntries 1 (some .boolean) 0 := ⟨⟨wd_244, wd_45, by decide +kernel⟩, wd_242, wd_243⟩
theorem ok_X0_timerEnabled : OkV yX0_timerEnabled cX0_timerEnabled 1 (some .boolean) 0 := ⟨⟨wd_224, wd_45, by decide +kernel⟩, wd_222, wd_223⟩
theorem ok_X4_s : OkS yX4_s cX4_s 1 (some .int) 1 := ⟨⟨wd_282, wd_40, by decide +kernel⟩, wd_281⟩
theorem ok_X4_a : OkV yX4_a cX4_a 2 (some .int) 1 := ⟨⟨wd_279, wd_40, by decide +kernel⟩, wd_278, wd_7⟩
theorem ok_X4_b : OkV yX4_b cX4_b 2 (some .int) 1 := ⟨⟨wd_297, wd_40, by decide +kernel⟩, wd_296, wd_10⟩
theorem ok_X4_belowUnsigned : OkS yX4_belowUnsigned cX4_belowUnsigned 2 (some .boolean) 2 := ⟨⟨wd_303, wd_40, by decide +kernel⟩, wd_302⟩
theorem ok_X4_compares : OkS yX4_compares cX4_compares 3 (some .boolean) 3 := ⟨⟨wd_300, wd_40, by decide +kernel⟩, wd_299⟩
theorem ok_X4_f : OkS yX4_f cX4_f 1 (some .int) 1 := ⟨⟨wd_275, wd_40, by decide +kernel⟩, wd_274⟩
theorem ok_X4_trap : OkV yX4_trap cX4_trap 3 (some .int) 2 := ⟨⟨wd_252, wd_40, by decide +kernel⟩, wd_251, wd_2⟩
theorem ok_X4_illegal : OkV yX4_illegal cX4_illegal 2 (some .int) 1 := ⟨⟨wd_289, wd_40, by decide +kernel⟩, wd_288, wd_8⟩
theorem ok_X4_offsetB : OkS yX4_offsetB cX4_offsetB 1 (some .int) 1 := ⟨⟨wd_313, wd_40, by decide +kernel⟩, wd_312⟩
theorem ok_X4_retireAt : OkV yX4_retireAt cX4_retireAt 2 (some .int) 1 := ⟨⟨wd_264, wd_40, by decide +kernel⟩, wd_263, wd_5⟩
theorem ok_X4_branch : OkV yX4_branch cX4_branch 5 (some .int) 1 := ⟨⟨wd_293, wd_40, by decide +kernel⟩, wd_292, wd_9⟩
theorem ok_X0_set : OkV yX0_set cX0_set 3 none 2 := ⟨⟨wd_411, wd_45, by decide +kernel⟩, wd_409, wd_410⟩
theorem ok_X4_setD : OkV yX4_setD cX4_setD 4 none 2 := ⟨⟨wd_260, wd_40, by decide +kernel⟩, wd_259, wd_4⟩
theorem ok_X4_retire : OkV yX4_retire cX4_retire 3 (some .int) 2 := ⟨⟨wd_256, wd_40, by decide +kernel⟩, wd_255, wd_3⟩
theorem ok_X4_control : OkV yX4_control cX4_control 8 (some .int) 1 := ⟨⟨wd_399, wd_40, by decide +kernel⟩, wd_398, wd_16⟩
theorem ok_X4_jump : OkV yX4_jump cX4_jump 3 (some .int) 2 := ⟨⟨wd_272, wd_40, by decide +kernel⟩, wd_271, wd_6⟩
theorem ok_X4_offsetI : OkS yX4_offsetI cX4_offsetI 1 (some .int) 1 := ⟨⟨wd_285, wd_40, by decide +kernel⟩, wd_284⟩
theorem ok_X4_offsetJ : OkS yX4_offsetJ cX4_offsetJ 1 (some .int) 1 := ⟨⟨wd_267, wd_40, by decide +kernel⟩, wd_266⟩
theorem ok_X2_room : OkV yX2_room cX2_room 1 (some .int) 0 := ⟨⟨wd_342, wd_44, by decide +kernel⟩, wd_340, wd_341⟩
theorem ok_X3_isTime : OkS yX3_isTime cX3_isTime 1 (some .boolean) 1 := ⟨⟨wd_334, wd_43, by decide +kernel⟩, wd_333⟩
theorem ok_X3_isUpper : OkS yX3_isUpper cX3_isUpper 1 (some .boolean) 1 := ⟨⟨wd_337, wd_43, by decide +kernel⟩, wd_336⟩
theorem ok_X3_half : OkV yX3_half cX3_half 4 (some .int) 1 := ⟨⟨wd_331, wd_43, by decide +kernel⟩, wd_329, wd_330⟩
theorem ok_X3_holds : OkS yX3_holds cX3_holds 1 (some .boolean) 1 := ⟨⟨wd_323, wd_43, by decide +kernel⟩, wd_322⟩
theorem ok_X4_extended : OkS yX4_extended cX4_extended 2 (some .int) 2 := ⟨⟨wd_320, wd_40, by decide +kernel⟩, wd_319⟩
theorem ok_X4_read : OkV yX4_read cX4_read 5 (some .int) 1 := ⟨⟨wd_317, wd_40, by decide +kernel⟩, wd_316, wd_11⟩
theorem ok_X4_g : OkS yX4_g cX4_g 1 (some .int) 1 := ⟨⟨wd_373, wd_40, by decide +kernel⟩, wd_372⟩
theorem ok_X4_reckoned : OkS yX4_reckoned cX4_reckoned 4 (some .int) 4 := ⟨⟨wd_376, wd_40, by decide +kernel⟩, wd_375⟩
theorem ok_X4_reckonWithNumber : OkV yX4_reckonWithNumber cX4_reckonWithNumber 5 (some .int) 1 := ⟨⟨wd_370, wd_40, by decide +kernel⟩, wd_369, wd_13⟩
theorem ok_X4_unsigned : OkS yX4_unsigned cX4_unsigned 1 (some .long) 1 := ⟨⟨wd_361, wd_40, by decide +kernel⟩, wd_360⟩
theorem ok_X4_divided : OkS yX4_divided cX4_divided 9 (some .int) 3 := ⟨⟨wd_387, wd_40, by decide +kernel⟩, wd_386⟩
theorem ok_X4_product : OkS yX4_product cX4_product 3 (some .int) 3 := ⟨⟨wd_383, wd_40, by decide +kernel⟩, wd_382⟩
theorem ok_X4_reckonWithRegister : OkV yX4_reckonWithRegister cX4_reckonWithRegister 6 (some .int) 1 := ⟨⟨wd_380, wd_40, by decide +kernel⟩, wd_379, wd_14⟩
theorem ok_X2_send : OkV yX2_send cX2_send 2 (some .boolean) 1 := ⟨⟨wd_366, wd_44, by decide +kernel⟩, wd_364, wd_365⟩
theorem ok_X3_withHalf : OkS yX3_withHalf cX3_withHalf 4 (some .long) 3 := ⟨⟨wd_356, wd_43, by decide +kernel⟩, wd_355⟩
theorem ok_X3_setHalf : OkV yX3_setHalf cX3_setHalf 3 none 2 := ⟨⟨wd_353, wd_43, by decide +kernel⟩, wd_351, wd_352⟩
theorem ok_X4_offsetS : OkS yX4_offsetS cX4_offsetS 1 (some .int) 1 := ⟨⟨wd_349, wd_40, by decide +kernel⟩, wd_348⟩
theorem ok_X4_store : OkV yX4_store cX4_store 5 (some .int) 1 := ⟨⟨wd_346, wd_40, by decide +kernel⟩, wd_345, wd_12⟩
theorem ok_X0_leave : OkV yX0_leave cX0_leave 1 (some .int) 0 := ⟨⟨wd_395, wd_45, by decide +kernel⟩, wd_393, wd_394⟩
theorem ok_X4_system : OkV yX4_system cX4_system 2 (some .int) 1 := ⟨⟨wd_391, wd_40, by decide +kernel⟩, wd_390, wd_15⟩
theorem ok_X4_instruct : OkV yX4_instruct cX4_instruct 2 (some .int) 0 := ⟨⟨wd_248, wd_40, by decide +kernel⟩, wd_247, wd_1⟩
theorem ok_X4_stepOnce : OkV yX4_stepOnce cX4_stepOnce 4 (some .int) 0 := ⟨⟨wd_220, wd_40, by decide +kernel⟩, wd_219, wd_0⟩
theorem ok_X4_run : OkV yX4_run cX4_run 3 (some .int) 1 := ⟨⟨wd_416, wd_40, by decide +kernel⟩, wd_414, wd_415⟩
theorem ok_X4_step : OkV yX4_step cX4_step 1 (some .int) 0 := ⟨⟨wd_216, wd_40, by decide +kernel⟩, wd_214, wd_215⟩
theorem ok_X4_tick : OkV yX4_tick cX4_tick 1 none 0 := ⟨⟨wd_425, wd_40, by decide +kernel⟩, wd_423, wd_424⟩
theorem ok_X4_told : OkV yX4_told cX4_told 2 (some .long) 1 := ⟨⟨wd_441, wd_40, by decide +kernel⟩, wd_439, wd_440⟩
theorem ok_X5_isDue : OkV yX5_isDue cX5_isDue 1 (some .boolean) 0 := ⟨⟨wd_580, wd_46, by decide +kernel⟩, wd_579, wd_19⟩
theorem ok_X5_csr : OkV yX5_csr cX5_csr 2 (some .int) 1 := ⟨⟨wd_575, wd_46, by decide +kernel⟩, wd_573, wd_574⟩
theorem ok_X5_reset : OkV yX5_reset cX5_reset 2 none 0 := ⟨⟨wd_467, wd_46, by decide +kernel⟩, wd_465, wd_466⟩
theorem ok_X5_isThere : OkV yX5_isThere cX5_isThere 3 (some .boolean) 2 := ⟨⟨wd_559, wd_46, by decide +kernel⟩, wd_558, wd_17⟩
theorem ok_X5_put : OkV yX5_put cX5_put 5 none 3 := ⟨⟨wd_567, wd_46, by decide +kernel⟩, wd_566, wd_18⟩
theorem ok_X5_load : OkV yX5_load cX5_load 3 (some .boolean) 2 := ⟨⟨wd_563, wd_46, by decide +kernel⟩, wd_561, wd_562⟩
theorem ok_X5_out : OkV yX5_out cX5_out 2 (some .int) 1 := ⟨⟨wd_718, wd_46, by decide +kernel⟩, wd_716, wd_717⟩
theorem ok_X5_outSize : OkV yX5_outSize cX5_outSize 1 (some .int) 0 := ⟨⟨wd_714, wd_46, by decide +kernel⟩, wd_712, wd_713⟩
theorem ok_X5_pc : OkV yX5_pc cX5_pc 1 (some .int) 0 := ⟨⟨wd_706, wd_46, by decide +kernel⟩, wd_704, wd_705⟩
theorem ok_X5_peek : OkV yX5_peek cX5_peek 2 (some .int) 1 := ⟨⟨wd_571, wd_46, by decide +kernel⟩, wd_569, wd_570⟩
theorem ok_X5_poke : OkV yX5_poke cX5_poke 3 (some .boolean) 2 := ⟨⟨wd_555, wd_46, by decide +kernel⟩, wd_553, wd_554⟩
theorem ok_X5_reg : OkV yX5_reg cX5_reg 2 (some .int) 1 := ⟨⟨wd_702, wd_46, by decide +kernel⟩, wd_700, wd_701⟩
theorem ok_X5_get : OkV yX5_get cX5_get 5 (some .int) 2 := ⟨⟨wd_603, wd_46, by decide +kernel⟩, wd_602, wd_23⟩
theorem ok_X5_trap : OkV yX5_trap cX5_trap 3 (some .int) 2 := ⟨⟨wd_595, wd_46, by decide +kernel⟩, wd_594, wd_21⟩
theorem ok_X5_become : OkV yX5_become cX5_become 2 (some .int) 1 := ⟨⟨wd_611, wd_46, by decide +kernel⟩, wd_610, wd_25⟩
theorem ok_X5_goTo : OkV yX5_goTo cX5_goTo 4 (some .int) 2 := ⟨⟨wd_616, wd_46, by decide +kernel⟩, wd_615, wd_26⟩
theorem ok_X5_illegal : OkV yX5_illegal cX5_illegal 1 (some .int) 0 := ⟨⟨wd_624, wd_46, by decide +kernel⟩, wd_623, wd_28⟩
theorem ok_X5_isBelow : OkS yX5_isBelow cX5_isBelow 2 (some .boolean) 2 := ⟨⟨wd_631, wd_46, by decide +kernel⟩, wd_630⟩
theorem ok_X5_branch : OkV yX5_branch cX5_branch 5 (some .int) 0 := ⟨⟨wd_628, wd_46, by decide +kernel⟩, wd_627, wd_29⟩
theorem ok_X5_isListed : OkS yX5_isListed cX5_isListed 1 (some .boolean) 1 := ⟨⟨wd_682, wd_46, by decide +kernel⟩, wd_681⟩
theorem ok_X5_setCsr : OkV yX5_setCsr cX5_setCsr 3 none 2 := ⟨⟨wd_686, wd_46, by decide +kernel⟩, wd_685, wd_38⟩
theorem ok_X5_control : OkV yX5_control cX5_control 6 (some .int) 0 := ⟨⟨wd_679, wd_46, by decide +kernel⟩, wd_678, wd_37⟩
theorem ok_X5_immediate : OkV yX5_immediate cX5_immediate 1 (some .int) 0 := ⟨⟨wd_620, wd_46, by decide +kernel⟩, wd_619, wd_27⟩
theorem ok_X5_isClock : OkS yX5_isClock cX5_isClock 1 (some .boolean) 1 := ⟨⟨wd_642, wd_46, by decide +kernel⟩, wd_641⟩
theorem ok_X5_isDevice : OkS yX5_isDevice cX5_isDevice 1 (some .boolean) 1 := ⟨⟨wd_639, wd_46, by decide +kernel⟩, wd_638⟩
theorem ok_X5_read : OkV yX5_read cX5_read 4 (some .int) 0 := ⟨⟨wd_636, wd_46, by decide +kernel⟩, wd_635, wd_30⟩
theorem ok_X5_reckon : OkV yX5_reckon cX5_reckon 3 (some .int) 2 := ⟨⟨wd_663, wd_46, by decide +kernel⟩, wd_662, wd_33⟩
theorem ok_X5_reckonBy : OkV yX5_reckonBy cX5_reckonBy 3 (some .int) 1 := ⟨⟨wd_659, wd_46, by decide +kernel⟩, wd_658, wd_32⟩
theorem ok_X5_multiplied : OkV yX5_multiplied cX5_multiplied 7 (some .int) 2 := ⟨⟨wd_671, wd_46, by decide +kernel⟩, wd_670, wd_35⟩
theorem ok_X5_reckonTwo : OkV yX5_reckonTwo cX5_reckonTwo 3 (some .int) 0 := ⟨⟨wd_667, wd_46, by decide +kernel⟩, wd_666, wd_34⟩
theorem ok_X5_mixed : OkS yX5_mixed cX5_mixed 4 (some .long) 3 := ⟨⟨wd_654, wd_46, by decide +kernel⟩, wd_653⟩
theorem ok_X5_store : OkV yX5_store cX5_store 5 (some .int) 0 := ⟨⟨wd_651, wd_46, by decide +kernel⟩, wd_650, wd_31⟩
theorem ok_X5_system : OkV yX5_system cX5_system 1 (some .int) 0 := ⟨⟨wd_675, wd_46, by decide +kernel⟩, wd_674, wd_36⟩
theorem ok_X5_work : OkV yX5_work cX5_work 2 (some .int) 0 := ⟨⟨wd_607, wd_46, by decide +kernel⟩, wd_606, wd_24⟩
theorem ok_X5_instruction : OkV yX5_instruction cX5_instruction 2 (some .int) 0 := ⟨⟨wd_599, wd_46, by decide +kernel⟩, wd_598, wd_22⟩
theorem ok_X5_once : OkV yX5_once cX5_once 4 (some .int) 0 := ⟨⟨wd_589, wd_46, by decide +kernel⟩, wd_588, wd_20⟩
theorem ok_X5_step : OkV yX5_step cX5_step 1 (some .int) 0 := ⟨⟨wd_585, wd_46, by decide +kernel⟩, wd_583, wd_584⟩
theorem ok_X5_tick : OkV yX5_tick cX5_tick 1 none 0 := ⟨⟨wd_697, wd_46, by decide +kernel⟩, wd_695, wd_696⟩
theorem ok_X5_run : OkV yX5_run cX5_run 4 (some .int) 1 := ⟨⟨wd_691, wd_46, by decide +kernel⟩, wd_689, wd_690⟩
theorem ok_X5_told : OkV yX5_told cX5_told 2 (some .long) 1 := ⟨⟨wd_710, wd_46, by decide +kernel⟩, wd_708, wd_709⟩
theorem gf_X0_7 {p : Program} {l : Launch} {e : Env} {R : Room} {s : State} {m : MethodId} {args : Array Value} {below : List Frame} {meth : Method} {c : Code} {H : Heap} {locs : List Loc} {cells slots : Nat} {Q : State → Prop} {cc : ByteArray} {pc nL : Nat} {ls : Array Slot} {rest : List Value} {D : va_G} {q : Nat → Nat} {ca : Nat → ClassId} {nW nB : Nat} {E : KS} (X : Cx p m c cc nL s args RX0 D (tysK ca)) (hP : va_P D vwCl (cwK q ca nW nB E) H) (hdg : decode cc pc = .ok (.getfield 7, 3)) (kk : W p l e R s m args below meth c H locs cells slots Q (F0 m (pc + 3) ls (.int (b2i (kon E)) :: rest))) : W p l e R s m args below meth c H locs cells slots Q (F0 m pc ls (.ref (q 6) :: rest)) :=
  va_get (D := D) (ci := 0)  (C := RX0) (T := TX0) (N := 8)  X.1.1 X.1.2.1 X.1.2.2.2.2 inX0 X.1.2.2.2.1 X.2 hP 6 rfl rfl 0 (by decide) (X.1.2.2.2.2 _ wd_111) (fun _ h => h) rfl hdg kk
theorem gf_X0_13 {p : Program} {l : Launch} {e : Env} {R : Room} {s : State} {m : MethodId} {args : Array Value} {below : List Frame} {meth : Method} {c : Code} {H : Heap} {locs : List Loc} {cells slots : Nat} {Q : State → Prop} {cc : ByteArray} {pc nL : Nat} {ls : Array Slot} {rest : List Value} {D : va_G} {q : Nat → Nat} {ca : Nat → ClassId} {nW nB : Nat} {E : KS} (X : Cx p m c cc nL s args RX0 D (tysK ca)) (hP : va_P D vwCl (cwK q ca nW nB E) H) (hdg : decode cc pc = .ok (.getfield 13, 3)) (kk : W p l e R s m args below meth c H locs cells slots Q (F0 m (pc + 3) ls (.int (b2i (kwas E)) :: rest))) : W p l e R s m args below meth c H locs cells slots Q (F0 m pc ls (.ref (q 6) :: rest)) :=
  va_get (D := D) (ci := 0)  (C := RX0) (T := TX0) (N := 8)  X.1.1 X.1.2.1 X.1.2.2.2.2 inX0 X.1.2.2.2.1 X.2 hP 6 rfl rfl 1 (by decide) (X.1.2.2.2.2 _ wd_113) (fun _ h => h) rfl hdg kk
theorem gf_X0_16 {p : Program} {l : Launch} {e : Env} {R : Room} {s : State} {m : MethodId} {args : Array Value} {below : List Frame} {meth : Method} {c : Code} {H : Heap} {locs : List Loc} {cells slots : Nat} {Q : State → Prop} {cc : ByteArray} {pc nL : Nat} {ls : Array Slot} {rest : List Value} {D : va_G} {q : Nat → Nat} {ca : Nat → ClassId} {nW nB : Nat} {E : KS} (X : Cx p m c cc nL s args RX0 D (tysK ca)) (hP : va_P D vwCl (cwK q ca nW nB E) H) (hdg : decode cc pc = .ok (.getfield 16, 3)) (kk : W p l e R s m args below meth c H locs cells slots Q (F0 m (pc + 3) ls (.int (kenabled E) :: rest))) : W p l e R s m args below meth c H locs cells slots Q (F0 m pc ls (.ref (q 6) :: rest)) :=
  va_get (D := D) (ci := 0)  (C := RX0) (T := TX0) (N := 8)  X.1.1 X.1.2.1 X.1.2.2.2.2 inX0 X.1.2.2.2.1 X.2 hP 6 rfl rfl 2 (by decide) (X.1.2.2.2.2 _ wd_114) (fun _ h => h) rfl hdg kk
theorem gf_X0_20 {p : Program} {l : Launch} {e : Env} {R : Room} {s : State} {m : MethodId} {args : Array Value} {below : List Frame} {meth : Method} {c : Code} {H : Heap} {locs : List Loc} {cells slots : Nat} {Q : State → Prop} {cc : ByteArray} {pc nL : Nat} {ls : Array Slot} {rest : List Value} {D : va_G} {q : Nat → Nat} {ca : Nat → ClassId} {nW nB : Nat} {E : KS} (X : Cx p m c cc nL s args RX0 D (tysK ca)) (hP : va_P D vwCl (cwK q ca nW nB E) H) (hdg : decode cc pc = .ok (.getfield 20, 3)) (kk : W p l e R s m args below meth c H locs cells slots Q (F0 m (pc + 3) ls (.int (kvector E) :: rest))) : W p l e R s m args below meth c H locs cells slots Q (F0 m pc ls (.ref (q 6) :: rest)) :=
  va_get (D := D) (ci := 0)  (C := RX0) (T := TX0) (N := 8)  X.1.1 X.1.2.1 X.1.2.2.2.2 inX0 X.1.2.2.2.1 X.2 hP 6 rfl rfl 3 (by decide) (X.1.2.2.2.2 _ wd_115) (fun _ h => h) rfl hdg kk
theorem gf_X0_23 {p : Program} {l : Launch} {e : Env} {R : Room} {s : State} {m : MethodId} {args : Array Value} {below : List Frame} {meth : Method} {c : Code} {H : Heap} {locs : List Loc} {cells slots : Nat} {Q : State → Prop} {cc : ByteArray} {pc nL : Nat} {ls : Array Slot} {rest : List Value} {D : va_G} {q : Nat → Nat} {ca : Nat → ClassId} {nW nB : Nat} {E : KS} (X : Cx p m c cc nL s args RX0 D (tysK ca)) (hP : va_P D vwCl (cwK q ca nW nB E) H) (hdg : decode cc pc = .ok (.getfield 23, 3)) (kk : W p l e R s m args below meth c H locs cells slots Q (F0 m (pc + 3) ls (.int (kscratch E) :: rest))) : W p l e R s m args below meth c H locs cells slots Q (F0 m pc ls (.ref (q 6) :: rest)) :=
  va_get (D := D) (ci := 0)  (C := RX0) (T := TX0) (N := 8)  X.1.1 X.1.2.1 X.1.2.2.2.2 inX0 X.1.2.2.2.1 X.2 hP 6 rfl rfl 4 (by decide) (X.1.2.2.2.2 _ wd_116) (fun _ h => h) rfl hdg kk
theorem gf_X0_26 {p : Program} {l : Launch} {e : Env} {R : Room} {s : State} {m : MethodId} {args : Array Value} {below : List Frame} {meth : Method} {c : Code} {H : Heap} {locs : List Loc} {cells slots : Nat} {Q : State → Prop} {cc : ByteArray} {pc nL : Nat} {ls : Array Slot} {rest : List Value} {D : va_G} {q : Nat → Nat} {ca : Nat → ClassId} {nW nB : Nat} {E : KS} (X : Cx p m c cc nL s args RX0 D (tysK ca)) (hP : va_P D vwCl (cwK q ca nW nB E) H) (hdg : decode cc pc = .ok (.getfield 26, 3)) (kk : W p l e R s m args below meth c H locs cells slots Q (F0 m (pc + 3) ls (.int (kback E) :: rest))) : W p l e R s m args below meth c H locs cells slots Q (F0 m pc ls (.ref (q 6) :: rest)) :=
  va_get (D := D) (ci := 0)  (C := RX0) (T := TX0) (N := 8)  X.1.1 X.1.2.1 X.1.2.2.2.2 inX0 X.1.2.2.2.1 X.2 hP 6 rfl rfl 5 (by decide) (X.1.2.2.2.2 _ wd_117) (fun _ h => h) rfl hdg kk
theorem gf_X0_29 {p : Program} {l : Launch} {e : Env} {R : Room} {s : State} {m : MethodId} {args : Array Value} {below : List Frame} {meth : Method} {c : Code} {H : Heap} {locs : List Loc} {cells slots : Nat} {Q : State → Prop} {cc : ByteArray} {pc nL : Nat} {ls : Array Slot} {rest : List Value} {D : va_G} {q : Nat → Nat} {ca : Nat → ClassId} {nW nB : Nat} {E : KS} (X : Cx p m c cc nL s args RX0 D (tysK ca)) (hP : va_P D vwCl (cwK q ca nW nB E) H) (hdg : decode cc pc = .ok (.getfield 29, 3)) (kk : W p l e R s m args below meth c H locs cells slots Q (F0 m (pc + 3) ls (.int (kcause E) :: rest))) : W p l e R s m args below meth c H locs cells slots Q (F0 m pc ls (.ref (q 6) :: rest)) :=
  va_get (D := D) (ci := 0)  (C := RX0) (T := TX0) (N := 8)  X.1.1 X.1.2.1 X.1.2.2.2.2 inX0 X.1.2.2.2.1 X.2 hP 6 rfl rfl 6 (by decide) (X.1.2.2.2.2 _ wd_118) (fun _ h => h) rfl hdg kk
theorem gf_X0_32 {p : Program} {l : Launch} {e : Env} {R : Room} {s : State} {m : MethodId} {args : Array Value} {below : List Frame} {meth : Method} {c : Code} {H : Heap} {locs : List Loc} {cells slots : Nat} {Q : State → Prop} {cc : ByteArray} {pc nL : Nat} {ls : Array Slot} {rest : List Value} {D : va_G} {q : Nat → Nat} {ca : Nat → ClassId} {nW nB : Nat} {E : KS} (X : Cx p m c cc nL s args RX0 D (tysK ca)) (hP : va_P D vwCl (cwK q ca nW nB E) H) (hdg : decode cc pc = .ok (.getfield 32, 3)) (kk : W p l e R s m args below meth c H locs cells slots Q (F0 m (pc + 3) ls (.int (kvalue E) :: rest))) : W p l e R s m args below meth c H locs cells slots Q (F0 m pc ls (.ref (q 6) :: rest)) :=
  va_get (D := D) (ci := 0)  (C := RX0) (T := TX0) (N := 8)  X.1.1 X.1.2.1 X.1.2.2.2.2 inX0 X.1.2.2.2.1 X.2 hP 6 rfl rfl 7 (by decide) (X.1.2.2.2.2 _ wd_119) (fun _ h => h) rfl hdg kk
theorem gf_X3_7 {p : Program} {l : Launch} {e : Env} {R : Room} {s : State} {m : MethodId} {args : Array Value} {below : List Frame} {meth : Method} {c : Code} {H : Heap} {locs : List Loc} {cells slots : Nat} {Q : State → Prop} {cc : ByteArray} {pc nL : Nat} {ls : Array Slot} {rest : List Value} {D : va_G} {q : Nat → Nat} {ca : Nat → ClassId} {nW nB : Nat} {E : KS} (X : Cx p m c cc nL s args RX3 D (tysK ca)) (hP : va_P D vwCl (cwK q ca nW nB E) H) (hdg : decode cc pc = .ok (.getfield 7, 3)) (kk : W p l e R s m args below meth c H locs cells slots Q (F0 m (pc + 3) ls (.long (ktime E) :: rest))) : W p l e R s m args below meth c H locs cells slots Q (F0 m pc ls (.ref (q 3) :: rest)) :=
  va_get (D := D) (ci := 3)  (C := RX3) (T := TX3) (N := 2)  X.1.1 X.1.2.1 X.1.2.2.2.2 inX3 X.1.2.2.2.1 X.2 hP 3 rfl rfl 0 (by decide) (X.1.2.2.2.2 _ wd_81) (fun _ h => h) rfl hdg kk
theorem gf_X3_15 {p : Program} {l : Launch} {e : Env} {R : Room} {s : State} {m : MethodId} {args : Array Value} {below : List Frame} {meth : Method} {c : Code} {H : Heap} {locs : List Loc} {cells slots : Nat} {Q : State → Prop} {cc : ByteArray} {pc nL : Nat} {ls : Array Slot} {rest : List Value} {D : va_G} {q : Nat → Nat} {ca : Nat → ClassId} {nW nB : Nat} {E : KS} (X : Cx p m c cc nL s args RX3 D (tysK ca)) (hP : va_P D vwCl (cwK q ca nW nB E) H) (hdg : decode cc pc = .ok (.getfield 15, 3)) (kk : W p l e R s m args below meth c H locs cells slots Q (F0 m (pc + 3) ls (.long (klimit E) :: rest))) : W p l e R s m args below meth c H locs cells slots Q (F0 m pc ls (.ref (q 3) :: rest)) :=
  va_get (D := D) (ci := 3)  (C := RX3) (T := TX3) (N := 2)  X.1.1 X.1.2.1 X.1.2.2.2.2 inX3 X.1.2.2.2.1 X.2 hP 3 rfl rfl 1 (by decide) (X.1.2.2.2.2 _ wd_83) (fun _ h => h) rfl hdg kk
theorem gf_X4_45 {p : Program} {l : Launch} {e : Env} {R : Room} {s : State} {m : MethodId} {args : Array Value} {below : List Frame} {meth : Method} {c : Code} {H : Heap} {locs : List Loc} {cells slots : Nat} {Q : State → Prop} {cc : ByteArray} {pc nL : Nat} {ls : Array Slot} {rest : List Value} {D : va_G} {q : Nat → Nat} {ca : Nat → ClassId} {nW nB : Nat} {E : KS} (X : Cx p m c cc nL s args RX4 D (tysK ca)) (hP : va_P D vwCl (cwK q ca nW nB E) H) (hdg : decode cc pc = .ok (.getfield 45, 3)) (kk : W p l e R s m args below meth c H locs cells slots Q (F0 m (pc + 3) ls (.ref (q 6) :: rest))) : W p l e R s m args below meth c H locs cells slots Q (F0 m pc ls (.ref (q 0) :: rest)) :=
  va_get (D := D) (ci := 4)  (C := RX4) (T := TX4) (N := 9)  X.1.1 X.1.2.1 X.1.2.2.2.2 inX4 X.1.2.2.2.1 X.2 hP 0 rfl rfl 3 (by decide) (X.1.2.2.2.2 _ wd_157) (fun _ h => h) rfl hdg kk
theorem gf_X4_31 {p : Program} {l : Launch} {e : Env} {R : Room} {s : State} {m : MethodId} {args : Array Value} {below : List Frame} {meth : Method} {c : Code} {H : Heap} {locs : List Loc} {cells slots : Nat} {Q : State → Prop} {cc : ByteArray} {pc nL : Nat} {ls : Array Slot} {rest : List Value} {D : va_G} {q : Nat → Nat} {ca : Nat → ClassId} {nW nB : Nat} {E : KS} (X : Cx p m c cc nL s args RX4 D (tysK ca)) (hP : va_P D vwCl (cwK q ca nW nB E) H) (hdg : decode cc pc = .ok (.getfield 31, 3)) (kk : W p l e R s m args below meth c H locs cells slots Q (F0 m (pc + 3) ls (.ref (q 3) :: rest))) : W p l e R s m args below meth c H locs cells slots Q (F0 m pc ls (.ref (q 0) :: rest)) :=
  va_get (D := D) (ci := 4)  (C := RX4) (T := TX4) (N := 9)  X.1.1 X.1.2.1 X.1.2.2.2.2 inX4 X.1.2.2.2.1 X.2 hP 0 rfl rfl 1 (by decide) (X.1.2.2.2.2 _ wd_155) (fun _ h => h) rfl hdg kk
theorem pf_X0_7 {p : Program} {l : Launch} {e : Env} {R : Room} {s : State} {m : MethodId} {args : Array Value} {below : List Frame} {meth : Method} {c : Code} {H H0 : Heap} {locs : List Loc} {cells slots : Nat} {Q : State → Prop} {cc : ByteArray} {pc nL : Nat} {ls : Array Slot} {rest : List Value} {D : va_G} {A : Nat → Prop} {q : Nat → Nat} {ca : Nat → ClassId} {nW nB : Nat} {E : KS} (X : Cx p m c cc nL s args RX0 D (tysK ca)) (hP : va_P D vwCl (cwK q ca nW nB E) H) (hD : va_D A (cwK q ca nW nB E)) (hS : va_S A H0 H locs) (v : Bool) (hdg : decode cc pc = .ok (.putfield 7, 3)) (kk : ∀ (H1 : Heap) (locs1 : List Loc), va_P D vwCl (cwK q ca nW nB (kon_ E v)) H1 → va_D A (cwK q ca nW nB (kon_ E v)) → va_S A H0 H1 locs1 → W p l e R s m args below meth c H1 locs1 cells slots Q (F0 m (pc + 3) ls rest)) : W p l e R s m args below meth c H locs cells slots Q (F0 m pc ls (.int (b2i v) :: .ref (q 6) :: rest)) :=
  va_put (D := D) (ci := 0) (v := .int (b2i v)) (ty := .boolean) (C := RX0) (T := TX0) (N := 8)  X.1.1 X.1.2.1 X.1.2.2.2.2 inX0 tyX0 tyX0_ok nmX0 X.1.2.2.2.1 X.2 hP hD hS 6 rfl rfl 0 (by decide) (X.1.2.2.2.2 _ wd_111) (fun _ h => h) rfl (by decide +kernel) (b2i_nar v) (b2i_fit v) (Nat.le_of_ble_eq_true rfl) hdg (fun H1 locs1 hP1 hD1 hS1 => kk H1 locs1 hP1 hD1 hS1)
theorem pf_X0_13 {p : Program} {l : Launch} {e : Env} {R : Room} {s : State} {m : MethodId} {args : Array Value} {below : List Frame} {meth : Method} {c : Code} {H H0 : Heap} {locs : List Loc} {cells slots : Nat} {Q : State → Prop} {cc : ByteArray} {pc nL : Nat} {ls : Array Slot} {rest : List Value} {D : va_G} {A : Nat → Prop} {q : Nat → Nat} {ca : Nat → ClassId} {nW nB : Nat} {E : KS} (X : Cx p m c cc nL s args RX0 D (tysK ca)) (hP : va_P D vwCl (cwK q ca nW nB E) H) (hD : va_D A (cwK q ca nW nB E)) (hS : va_S A H0 H locs) (v : Bool) (hdg : decode cc pc = .ok (.putfield 13, 3)) (kk : ∀ (H1 : Heap) (locs1 : List Loc), va_P D vwCl (cwK q ca nW nB (kwas_ E v)) H1 → va_D A (cwK q ca nW nB (kwas_ E v)) → va_S A H0 H1 locs1 → W p l e R s m args below meth c H1 locs1 cells slots Q (F0 m (pc + 3) ls rest)) : W p l e R s m args below meth c H locs cells slots Q (F0 m pc ls (.int (b2i v) :: .ref (q 6) :: rest)) :=
  va_put (D := D) (ci := 0) (v := .int (b2i v)) (ty := .boolean) (C := RX0) (T := TX0) (N := 8)  X.1.1 X.1.2.1 X.1.2.2.2.2 inX0 tyX0 tyX0_ok nmX0 X.1.2.2.2.1 X.2 hP hD hS 6 rfl rfl 1 (by decide) (X.1.2.2.2.2 _ wd_113) (fun _ h => h) rfl (by decide +kernel) (b2i_nar v) (b2i_fit v) (Nat.le_of_ble_eq_true rfl) hdg (fun H1 locs1 hP1 hD1 hS1 => kk H1 locs1 hP1 hD1 hS1)
theorem pf_X0_16 {p : Program} {l : Launch} {e : Env} {R : Room} {s : State} {m : MethodId} {args : Array Value} {below : List Frame} {meth : Method} {c : Code} {H H0 : Heap} {locs : List Loc} {cells slots : Nat} {Q : State → Prop} {cc : ByteArray} {pc nL : Nat} {ls : Array Slot} {rest : List Value} {D : va_G} {A : Nat → Prop} {q : Nat → Nat} {ca : Nat → ClassId} {nW nB : Nat} {E : KS} (X : Cx p m c cc nL s args RX0 D (tysK ca)) (hP : va_P D vwCl (cwK q ca nW nB E) H) (hD : va_D A (cwK q ca nW nB E)) (hS : va_S A H0 H locs) (v : Int32) (hdg : decode cc pc = .ok (.putfield 16, 3)) (kk : ∀ (H1 : Heap) (locs1 : List Loc), va_P D vwCl (cwK q ca nW nB (kenabled_ E v)) H1 → va_D A (cwK q ca nW nB (kenabled_ E v)) → va_S A H0 H1 locs1 → W p l e R s m args below meth c H1 locs1 cells slots Q (F0 m (pc + 3) ls rest)) : W p l e R s m args below meth c H locs cells slots Q (F0 m pc ls (.int v :: .ref (q 6) :: rest)) :=
  va_put (D := D) (ci := 0) (v := .int v) (ty := .int) (C := RX0) (T := TX0) (N := 8)  X.1.1 X.1.2.1 X.1.2.2.2.2 inX0 tyX0 tyX0_ok nmX0 X.1.2.2.2.1 X.2 hP hD hS 6 rfl rfl 2 (by decide) (X.1.2.2.2.2 _ wd_114) (fun _ h => h) rfl (by decide +kernel) rfl rfl (Nat.le_of_ble_eq_true rfl) hdg (fun H1 locs1 hP1 hD1 hS1 => kk H1 locs1 hP1 hD1 hS1)
theorem pf_X0_20 {p : Program} {l : Launch} {e : Env} {R : Room} {s : State} {m : MethodId} {args : Array Value} {below : List Frame} {meth : Method} {c : Code} {H H0 : Heap} {locs : List Loc} {cells slots : Nat} {Q : State → Prop} {cc : ByteArray} {pc nL : Nat} {ls : Array Slot} {rest : List Value} {D : va_G} {A : Nat → Prop} {q : Nat → Nat} {ca : Nat → ClassId} {nW nB : Nat} {E : KS} (X : Cx p m c cc nL s args RX0 D (tysK ca)) (hP : va_P D vwCl (cwK q ca nW nB E) H) (hD : va_D A (cwK q ca nW nB E)) (hS : va_S A H0 H locs) (v : Int32) (hdg : decode cc pc = .ok (.putfield 20, 3)) (kk : ∀ (H1 : Heap) (locs1 : List Loc), va_P D vwCl (cwK q ca nW nB (kvector_ E v)) H1 → va_D A (cwK q ca nW nB (kvector_ E v)) → va_S A H0 H1 locs1 → W p l e R s m args below meth c H1 locs1 cells slots Q (F0 m (pc + 3) ls rest)) : W p l e R s m args below meth c H locs cells slots Q (F0 m pc ls (.int v :: .ref (q 6) :: rest)) :=
  va_put (D := D) (ci := 0) (v := .int v) (ty := .int) (C := RX0) (T := TX0) (N := 8)  X.1.1 X.1.2.1 X.1.2.2.2.2 inX0 tyX0 tyX0_ok nmX0 X.1.2.2.2.1 X.2 hP hD hS 6 rfl rfl 3 (by decide) (X.1.2.2.2.2 _ wd_115) (fun _ h => h) rfl (by decide +kernel) rfl rfl (Nat.le_of_ble_eq_true rfl) hdg (fun H1 locs1 hP1 hD1 hS1 => kk H1 locs1 hP1 hD1 hS1)
theorem pf_X0_23 {p : Program} {l : Launch} {e : Env} {R : Room} {s : State} {m : MethodId} {args : Array Value} {below : List Frame} {meth : Method} {c : Code} {H H0 : Heap} {locs : List Loc} {cells slots : Nat} {Q : State → Prop} {cc : ByteArray} {pc nL : Nat} {ls : Array Slot} {rest : List Value} {D : va_G} {A : Nat → Prop} {q : Nat → Nat} {ca : Nat → ClassId} {nW nB : Nat} {E : KS} (X : Cx p m c cc nL s args RX0 D (tysK ca)) (hP : va_P D vwCl (cwK q ca nW nB E) H) (hD : va_D A (cwK q ca nW nB E)) (hS : va_S A H0 H locs) (v : Int32) (hdg : decode cc pc = .ok (.putfield 23, 3)) (kk : ∀ (H1 : Heap) (locs1 : List Loc), va_P D vwCl (cwK q ca nW nB (kscratch_ E v)) H1 → va_D A (cwK q ca nW nB (kscratch_ E v)) → va_S A H0 H1 locs1 → W p l e R s m args below meth c H1 locs1 cells slots Q (F0 m (pc + 3) ls rest)) : W p l e R s m args below meth c H locs cells slots Q (F0 m pc ls (.int v :: .ref (q 6) :: rest)) :=
  va_put (D := D) (ci := 0) (v := .int v) (ty := .int) (C := RX0) (T := TX0) (N := 8)  X.1.1 X.1.2.1 X.1.2.2.2.2 inX0 tyX0 tyX0_ok nmX0 X.1.2.2.2.1 X.2 hP hD hS 6 rfl rfl 4 (by decide) (X.1.2.2.2.2 _ wd_116) (fun _ h => h) rfl (by decide +kernel) rfl rfl (Nat.le_of_ble_eq_true rfl) hdg (fun H1 locs1 hP1 hD1 hS1 => kk H1 locs1 hP1 hD1 hS1)
theorem pf_X0_26 {p : Program} {l : Launch} {e : Env} {R : Room} {s : State} {m : MethodId} {args : Array Value} {below : List Frame} {meth : Method} {c : Code} {H H0 : Heap} {locs : List Loc} {cells slots : Nat} {Q : State → Prop} {cc : ByteArray} {pc nL : Nat} {ls : Array Slot} {rest : List Value} {D : va_G} {A : Nat → Prop} {q : Nat → Nat} {ca : Nat → ClassId} {nW nB : Nat} {E : KS} (X : Cx p m c cc nL s args RX0 D (tysK ca)) (hP : va_P D vwCl (cwK q ca nW nB E) H) (hD : va_D A (cwK q ca nW nB E)) (hS : va_S A H0 H locs) (v : Int32) (hdg : decode cc pc = .ok (.putfield 26, 3)) (kk : ∀ (H1 : Heap) (locs1 : List Loc), va_P D vwCl (cwK q ca nW nB (kback_ E v)) H1 → va_D A (cwK q ca nW nB (kback_ E v)) → va_S A H0 H1 locs1 → W p l e R s m args below meth c H1 locs1 cells slots Q (F0 m (pc + 3) ls rest)) : W p l e R s m args below meth c H locs cells slots Q (F0 m pc ls (.int v :: .ref (q 6) :: rest)) :=
  va_put (D := D) (ci := 0) (v := .int v) (ty := .int) (C := RX0) (T := TX0) (N := 8)  X.1.1 X.1.2.1 X.1.2.2.2.2 inX0 tyX0 tyX0_ok nmX0 X.1.2.2.2.1 X.2 hP hD hS 6 rfl rfl 5 (by decide) (X.1.2.2.2.2 _ wd_117) (fun _ h => h) rfl (by decide +kernel) rfl rfl (Nat.le_of_ble_eq_true rfl) hdg (fun H1 locs1 hP1 hD1 hS1 => kk H1 locs1 hP1 hD1 hS1)
theorem pf_X0_29 {p : Program} {l : Launch} {e : Env} {R : Room} {s : State} {m : MethodId} {args : Array Value} {below : List Frame} {meth : Method} {c : Code} {H H0 : Heap} {locs : List Loc} {cells slots : Nat} {Q : State → Prop} {cc : ByteArray} {pc nL : Nat} {ls : Array Slot} {rest : List Value} {D : va_G} {A : Nat → Prop} {q : Nat → Nat} {ca : Nat → ClassId} {nW nB : Nat} {E : KS} (X : Cx p m c cc nL s args RX0 D (tysK ca)) (hP : va_P D vwCl (cwK q ca nW nB E) H) (hD : va_D A (cwK q ca nW nB E)) (hS : va_S A H0 H locs) (v : Int32) (hdg : decode cc pc = .ok (.putfield 29, 3)) (kk : ∀ (H1 : Heap) (locs1 : List Loc), va_P D vwCl (cwK q ca nW nB (kcause_ E v)) H1 → va_D A (cwK q ca nW nB (kcause_ E v)) → va_S A H0 H1 locs1 → W p l e R s m args below meth c H1 locs1 cells slots Q (F0 m (pc + 3) ls rest)) : W p l e R s m args below meth c H locs cells slots Q (F0 m pc ls (.int v :: .ref (q 6) :: rest)) :=
  va_put (D := D) (ci := 0) (v := .int v) (ty := .int) (C := RX0) (T := TX0) (N := 8)  X.1.1 X.1.2.1 X.1.2.2.2.2 inX0 tyX0 tyX0_ok nmX0 X.1.2.2.2.1 X.2 hP hD hS 6 rfl rfl 6 (by decide) (X.1.2.2.2.2 _ wd_118) (fun _ h => h) rfl (by decide +kernel) rfl rfl (Nat.le_of_ble_eq_true rfl) hdg (fun H1 locs1 hP1 hD1 hS1 => kk H1 locs1 hP1 hD1 hS1)
theorem pf_X0_32 {p : Program} {l : Launch} {e : Env} {R : Room} {s : State} {m : MethodId} {args : Array Value} {below : List Frame} {meth : Method} {c : Code} {H H0 : Heap} {locs : List Loc} {cells slots : Nat} {Q : State → Prop} {cc : ByteArray} {pc nL : Nat} {ls : Array Slot} {rest : List Value} {D : va_G} {A : Nat → Prop} {q : Nat → Nat} {ca : Nat → ClassId} {nW nB : Nat} {E : KS} (X : Cx p m c cc nL s args RX0 D (tysK ca)) (hP : va_P D vwCl (cwK q ca nW nB E) H) (hD : va_D A (cwK q ca nW nB E)) (hS : va_S A H0 H locs) (v : Int32) (hdg : decode cc pc = .ok (.putfield 32, 3)) (kk : ∀ (H1 : Heap) (locs1 : List Loc), va_P D vwCl (cwK q ca nW nB (kvalue_ E v)) H1 → va_D A (cwK q ca nW nB (kvalue_ E v)) → va_S A H0 H1 locs1 → W p l e R s m args below meth c H1 locs1 cells slots Q (F0 m (pc + 3) ls rest)) : W p l e R s m args below meth c H locs cells slots Q (F0 m pc ls (.int v :: .ref (q 6) :: rest)) :=
  va_put (D := D) (ci := 0) (v := .int v) (ty := .int) (C := RX0) (T := TX0) (N := 8)  X.1.1 X.1.2.1 X.1.2.2.2.2 inX0 tyX0 tyX0_ok nmX0 X.1.2.2.2.1 X.2 hP hD hS 6 rfl rfl 7 (by decide) (X.1.2.2.2.2 _ wd_119) (fun _ h => h) rfl (by decide +kernel) rfl rfl (Nat.le_of_ble_eq_true rfl) hdg (fun H1 locs1 hP1 hD1 hS1 => kk H1 locs1 hP1 hD1 hS1)
theorem pf_X2_13 {p : Program} {l : Launch} {e : Env} {R : Room} {s : State} {m : MethodId} {args : Array Value} {below : List Frame} {meth : Method} {c : Code} {H H0 : Heap} {locs : List Loc} {cells slots : Nat} {Q : State → Prop} {cc : ByteArray} {pc nL : Nat} {ls : Array Slot} {rest : List Value} {D : va_G} {A : Nat → Prop} {q : Nat → Nat} {ca : Nat → ClassId} {nW nB : Nat} {E : KS} (X : Cx p m c cc nL s args RX2 D (tysK ca)) (hP : va_P D vwCl (cwK q ca nW nB E) H) (hD : va_D A (cwK q ca nW nB E)) (hS : va_S A H0 H locs) (v : Int32) (hdg : decode cc pc = .ok (.putfield 13, 3)) (kk : ∀ (H1 : Heap) (locs1 : List Loc), va_P D vwCl (cwK q ca nW nB (ksent_ E v)) H1 → va_D A (cwK q ca nW nB (ksent_ E v)) → va_S A H0 H1 locs1 → W p l e R s m args below meth c H1 locs1 cells slots Q (F0 m (pc + 3) ls rest)) : W p l e R s m args below meth c H locs cells slots Q (F0 m pc ls (.int v :: .ref (q 4) :: rest)) :=
  va_put (D := D) (ci := 2) (v := .int v) (ty := .int) (C := RX2) (T := TX2) (N := 2)  X.1.1 X.1.2.1 X.1.2.2.2.2 inX2 tyX2 tyX2_ok nmX2 X.1.2.2.2.1 X.2 hP hD hS 4 rfl rfl 1 (by decide) (X.1.2.2.2.2 _ wd_97) (fun _ h => h) rfl (by decide +kernel) rfl rfl (Nat.le_of_ble_eq_true rfl) hdg (fun H1 locs1 hP1 hD1 hS1 => kk H1 locs1 hP1 hD1 hS1)
theorem pf_X3_7 {p : Program} {l : Launch} {e : Env} {R : Room} {s : State} {m : MethodId} {args : Array Value} {below : List Frame} {meth : Method} {c : Code} {H H0 : Heap} {locs : List Loc} {cells slots : Nat} {Q : State → Prop} {cc : ByteArray} {pc nL : Nat} {ls : Array Slot} {rest : List Value} {D : va_G} {A : Nat → Prop} {q : Nat → Nat} {ca : Nat → ClassId} {nW nB : Nat} {E : KS} (X : Cx p m c cc nL s args RX3 D (tysK ca)) (hP : va_P D vwCl (cwK q ca nW nB E) H) (hD : va_D A (cwK q ca nW nB E)) (hS : va_S A H0 H locs) (v : Int64) (hdg : decode cc pc = .ok (.putfield 7, 3)) (kk : ∀ (H1 : Heap) (locs1 : List Loc), va_P D vwCl (cwK q ca nW nB (ktime_ E v)) H1 → va_D A (cwK q ca nW nB (ktime_ E v)) → va_S A H0 H1 locs1 → W p l e R s m args below meth c H1 locs1 cells slots Q (F0 m (pc + 3) ls rest)) : W p l e R s m args below meth c H locs cells slots Q (F0 m pc ls (.long v :: .ref (q 3) :: rest)) :=
  va_put (D := D) (ci := 3) (v := .long v) (ty := .long) (C := RX3) (T := TX3) (N := 2)  X.1.1 X.1.2.1 X.1.2.2.2.2 inX3 tyX3 tyX3_ok nmX3 X.1.2.2.2.1 X.2 hP hD hS 3 rfl rfl 0 (by decide) (X.1.2.2.2.2 _ wd_81) (fun _ h => h) rfl (by decide +kernel) rfl rfl (Nat.le_of_ble_eq_true rfl) hdg (fun H1 locs1 hP1 hD1 hS1 => kk H1 locs1 hP1 hD1 hS1)
theorem pf_X3_15 {p : Program} {l : Launch} {e : Env} {R : Room} {s : State} {m : MethodId} {args : Array Value} {below : List Frame} {meth : Method} {c : Code} {H H0 : Heap} {locs : List Loc} {cells slots : Nat} {Q : State → Prop} {cc : ByteArray} {pc nL : Nat} {ls : Array Slot} {rest : List Value} {D : va_G} {A : Nat → Prop} {q : Nat → Nat} {ca : Nat → ClassId} {nW nB : Nat} {E : KS} (X : Cx p m c cc nL s args RX3 D (tysK ca)) (hP : va_P D vwCl (cwK q ca nW nB E) H) (hD : va_D A (cwK q ca nW nB E)) (hS : va_S A H0 H locs) (v : Int64) (hdg : decode cc pc = .ok (.putfield 15, 3)) (kk : ∀ (H1 : Heap) (locs1 : List Loc), va_P D vwCl (cwK q ca nW nB (klimit_ E v)) H1 → va_D A (cwK q ca nW nB (klimit_ E v)) → va_S A H0 H1 locs1 → W p l e R s m args below meth c H1 locs1 cells slots Q (F0 m (pc + 3) ls rest)) : W p l e R s m args below meth c H locs cells slots Q (F0 m pc ls (.long v :: .ref (q 3) :: rest)) :=
  va_put (D := D) (ci := 3) (v := .long v) (ty := .long) (C := RX3) (T := TX3) (N := 2)  X.1.1 X.1.2.1 X.1.2.2.2.2 inX3 tyX3 tyX3_ok nmX3 X.1.2.2.2.1 X.2 hP hD hS 3 rfl rfl 1 (by decide) (X.1.2.2.2.2 _ wd_83) (fun _ h => h) rfl (by decide +kernel) rfl rfl (Nat.le_of_ble_eq_true rfl) hdg (fun H1 locs1 hP1 hD1 hS1 => kk H1 locs1 hP1 hD1 hS1)
theorem gf_X1_7 {p : Program} {l : Launch} {e : Env} {R : Room} {s : State} {m : MethodId} {args : Array Value} {below : List Frame} {meth : Method} {c : Code} {H : Heap} {locs : List Loc} {cells slots : Nat} {Q : State → Prop} {cc : ByteArray} {pc nL : Nat} {ls : Array Slot} {rest : List Value} {D : va_G} {q : Nat → Nat} {ca : Nat → ClassId} {nW nB : Nat} {E : KS} (X : Cx p m c cc nL s args RX1 D (tysK ca)) (hP : va_P D vwCl (cwK q ca nW nB E) H) (hdg : decode cc pc = .ok (.getfield 7, 3)) (kk : W p l e R s m args below meth c H locs cells slots Q (F0 m (pc + 3) ls (.ref (q 2) :: rest))) : W p l e R s m args below meth c H locs cells slots Q (F0 m pc ls (.ref (q 1) :: rest)) :=
  va_get (D := D) (ci := 1)  (C := RX1) (T := TX1) (N := 1)  X.1.1 X.1.2.1 X.1.2.2.2.2 inX1 X.1.2.2.2.1 X.2 hP 1 rfl rfl 0 (by decide) (X.1.2.2.2.2 _ wd_70) (fun _ h => h) rfl hdg kk
theorem gf_X4_24 {p : Program} {l : Launch} {e : Env} {R : Room} {s : State} {m : MethodId} {args : Array Value} {below : List Frame} {meth : Method} {c : Code} {H : Heap} {locs : List Loc} {cells slots : Nat} {Q : State → Prop} {cc : ByteArray} {pc nL : Nat} {ls : Array Slot} {rest : List Value} {D : va_G} {q : Nat → Nat} {ca : Nat → ClassId} {nW nB : Nat} {E : KS} (X : Cx p m c cc nL s args RX4 D (tysK ca)) (hP : va_P D vwCl (cwK q ca nW nB E) H) (hdg : decode cc pc = .ok (.getfield 24, 3)) (kk : W p l e R s m args below meth c H locs cells slots Q (F0 m (pc + 3) ls (.ref (q 1) :: rest))) : W p l e R s m args below meth c H locs cells slots Q (F0 m pc ls (.ref (q 0) :: rest)) :=
  va_get (D := D) (ci := 4)  (C := RX4) (T := TX4) (N := 9)  X.1.1 X.1.2.1 X.1.2.2.2.2 inX4 X.1.2.2.2.1 X.2 hP 0 rfl rfl 0 (by decide) (X.1.2.2.2.2 _ wd_154) (fun _ h => h) rfl hdg kk
theorem gf_X2_13 {p : Program} {l : Launch} {e : Env} {R : Room} {s : State} {m : MethodId} {args : Array Value} {below : List Frame} {meth : Method} {c : Code} {H : Heap} {locs : List Loc} {cells slots : Nat} {Q : State → Prop} {cc : ByteArray} {pc nL : Nat} {ls : Array Slot} {rest : List Value} {D : va_G} {q : Nat → Nat} {ca : Nat → ClassId} {nW nB : Nat} {E : KS} (X : Cx p m c cc nL s args RX2 D (tysK ca)) (hP : va_P D vwCl (cwK q ca nW nB E) H) (hdg : decode cc pc = .ok (.getfield 13, 3)) (kk : W p l e R s m args below meth c H locs cells slots Q (F0 m (pc + 3) ls (.int (ksent E) :: rest))) : W p l e R s m args below meth c H locs cells slots Q (F0 m pc ls (.ref (q 4) :: rest)) :=
  va_get (D := D) (ci := 2)  (C := RX2) (T := TX2) (N := 2)  X.1.1 X.1.2.1 X.1.2.2.2.2 inX2 X.1.2.2.2.1 X.2 hP 4 rfl rfl 1 (by decide) (X.1.2.2.2.2 _ wd_97) (fun _ h => h) rfl hdg kk
theorem gf_X2_7 {p : Program} {l : Launch} {e : Env} {R : Room} {s : State} {m : MethodId} {args : Array Value} {below : List Frame} {meth : Method} {c : Code} {H : Heap} {locs : List Loc} {cells slots : Nat} {Q : State → Prop} {cc : ByteArray} {pc nL : Nat} {ls : Array Slot} {rest : List Value} {D : va_G} {q : Nat → Nat} {ca : Nat → ClassId} {nW nB : Nat} {E : KS} (X : Cx p m c cc nL s args RX2 D (tysK ca)) (hP : va_P D vwCl (cwK q ca nW nB E) H) (hdg : decode cc pc = .ok (.getfield 7, 3)) (kk : W p l e R s m args below meth c H locs cells slots Q (F0 m (pc + 3) ls (.ref (q 5) :: rest))) : W p l e R s m args below meth c H locs cells slots Q (F0 m pc ls (.ref (q 4) :: rest)) :=
  va_get (D := D) (ci := 2)  (C := RX2) (T := TX2) (N := 2)  X.1.1 X.1.2.1 X.1.2.2.2.2 inX2 X.1.2.2.2.1 X.2 hP 4 rfl rfl 0 (by decide) (X.1.2.2.2.2 _ wd_96) (fun _ h => h) rfl hdg kk
theorem gf_X4_38 {p : Program} {l : Launch} {e : Env} {R : Room} {s : State} {m : MethodId} {args : Array Value} {below : List Frame} {meth : Method} {c : Code} {H : Heap} {locs : List Loc} {cells slots : Nat} {Q : State → Prop} {cc : ByteArray} {pc nL : Nat} {ls : Array Slot} {rest : List Value} {D : va_G} {q : Nat → Nat} {ca : Nat → ClassId} {nW nB : Nat} {E : KS} (X : Cx p m c cc nL s args RX4 D (tysK ca)) (hP : va_P D vwCl (cwK q ca nW nB E) H) (hdg : decode cc pc = .ok (.getfield 38, 3)) (kk : W p l e R s m args below meth c H locs cells slots Q (F0 m (pc + 3) ls (.ref (q 4) :: rest))) : W p l e R s m args below meth c H locs cells slots Q (F0 m pc ls (.ref (q 0) :: rest)) :=
  va_get (D := D) (ci := 4)  (C := RX4) (T := TX4) (N := 9)  X.1.1 X.1.2.1 X.1.2.2.2.2 inX4 X.1.2.2.2.1 X.2 hP 0 rfl rfl 2 (by decide) (X.1.2.2.2.2 _ wd_156) (fun _ h => h) rfl hdg kk
theorem gf_X4_111 {p : Program} {l : Launch} {e : Env} {R : Room} {s : State} {m : MethodId} {args : Array Value} {below : List Frame} {meth : Method} {c : Code} {H : Heap} {locs : List Loc} {cells slots : Nat} {Q : State → Prop} {cc : ByteArray} {pc nL : Nat} {ls : Array Slot} {rest : List Value} {D : va_G} {q : Nat → Nat} {ca : Nat → ClassId} {nW nB : Nat} {E : KS} (X : Cx p m c cc nL s args RX4 D (tysK ca)) (hP : va_P D vwCl (cwK q ca nW nB E) H) (hdg : decode cc pc = .ok (.getfield 111, 3)) (kk : W p l e R s m args below meth c H locs cells slots Q (F0 m (pc + 3) ls (.int (ksent E) :: rest))) : W p l e R s m args below meth c H locs cells slots Q (F0 m pc ls (.ref (q 4) :: rest)) :=
  va_getN (D := D) (ci := 2)  (C := RX2) (T := TX2) (N := 2)  X.1.1 X.1.2.1 X.1.2.2.2.2 inX2 X.1.2.2.2.1 X.2 hP 4 rfl rfl 1 (by decide) (X.1.2.2.2.2 _ wd_98) (fun _ h => h) rfl hdg kk
theorem gf_X4_56 {p : Program} {l : Launch} {e : Env} {R : Room} {s : State} {m : MethodId} {args : Array Value} {below : List Frame} {meth : Method} {c : Code} {H : Heap} {locs : List Loc} {cells slots : Nat} {Q : State → Prop} {cc : ByteArray} {pc nL : Nat} {ls : Array Slot} {rest : List Value} {D : va_G} {q : Nat → Nat} {ca : Nat → ClassId} {nW nB : Nat} {E : KS} (X : Cx p m c cc nL s args RX4 D (tysK ca)) (hP : va_P D vwCl (cwK q ca nW nB E) H) (hdg : decode cc pc = .ok (.getfield 56, 3)) (kk : W p l e R s m args below meth c H locs cells slots Q (F0 m (pc + 3) ls (.int (kplace E) :: rest))) : W p l e R s m args below meth c H locs cells slots Q (F0 m pc ls (.ref (q 0) :: rest)) :=
  va_get (D := D) (ci := 4)  (C := RX4) (T := TX4) (N := 9)  X.1.1 X.1.2.1 X.1.2.2.2.2 inX4 X.1.2.2.2.1 X.2 hP 0 rfl rfl 5 (by decide) (X.1.2.2.2.2 _ wd_159) (fun _ h => h) rfl hdg kk
theorem gf_X4_49 {p : Program} {l : Launch} {e : Env} {R : Room} {s : State} {m : MethodId} {args : Array Value} {below : List Frame} {meth : Method} {c : Code} {H : Heap} {locs : List Loc} {cells slots : Nat} {Q : State → Prop} {cc : ByteArray} {pc nL : Nat} {ls : Array Slot} {rest : List Value} {D : va_G} {q : Nat → Nat} {ca : Nat → ClassId} {nW nB : Nat} {E : KS} (X : Cx p m c cc nL s args RX4 D (tysK ca)) (hP : va_P D vwCl (cwK q ca nW nB E) H) (hdg : decode cc pc = .ok (.getfield 49, 3)) (kk : W p l e R s m args below meth c H locs cells slots Q (F0 m (pc + 3) ls (.ref (q 7) :: rest))) : W p l e R s m args below meth c H locs cells slots Q (F0 m pc ls (.ref (q 0) :: rest)) :=
  va_get (D := D) (ci := 4)  (C := RX4) (T := TX4) (N := 9)  X.1.1 X.1.2.1 X.1.2.2.2.2 inX4 X.1.2.2.2.1 X.2 hP 0 rfl rfl 4 (by decide) (X.1.2.2.2.2 _ wd_158) (fun _ h => h) rfl hdg kk
theorem pf_X4_56 {p : Program} {l : Launch} {e : Env} {R : Room} {s : State} {m : MethodId} {args : Array Value} {below : List Frame} {meth : Method} {c : Code} {H H0 : Heap} {locs : List Loc} {cells slots : Nat} {Q : State → Prop} {cc : ByteArray} {pc nL : Nat} {ls : Array Slot} {rest : List Value} {D : va_G} {A : Nat → Prop} {q : Nat → Nat} {ca : Nat → ClassId} {nW nB : Nat} {E : KS} (X : Cx p m c cc nL s args RX4 D (tysK ca)) (hP : va_P D vwCl (cwK q ca nW nB E) H) (hD : va_D A (cwK q ca nW nB E)) (hS : va_S A H0 H locs) (v : Int32) (hdg : decode cc pc = .ok (.putfield 56, 3)) (kk : ∀ (H1 : Heap) (locs1 : List Loc), va_P D vwCl (cwK q ca nW nB (kplace_ E v)) H1 → va_D A (cwK q ca nW nB (kplace_ E v)) → va_S A H0 H1 locs1 → W p l e R s m args below meth c H1 locs1 cells slots Q (F0 m (pc + 3) ls rest)) : W p l e R s m args below meth c H locs cells slots Q (F0 m pc ls (.int v :: .ref (q 0) :: rest)) :=
  va_put (D := D) (ci := 4) (v := .int v) (ty := .int) (C := RX4) (T := TX4) (N := 9)  X.1.1 X.1.2.1 X.1.2.2.2.2 inX4 tyX4 tyX4_ok nmX4 X.1.2.2.2.1 X.2 hP hD hS 0 rfl rfl 5 (by decide) (X.1.2.2.2.2 _ wd_159) (fun _ h => h) rfl (by decide +kernel) rfl rfl (Nat.le_of_ble_eq_true rfl) hdg (fun H1 locs1 hP1 hD1 hS1 => kk H1 locs1 hP1 hD1 hS1)
theorem gf_X4_64 {p : Program} {l : Launch} {e : Env} {R : Room} {s : State} {m : MethodId} {args : Array Value} {below : List Frame} {meth : Method} {c : Code} {H : Heap} {locs : List Loc} {cells slots : Nat} {Q : State → Prop} {cc : ByteArray} {pc nL : Nat} {ls : Array Slot} {rest : List Value} {D : va_G} {q : Nat → Nat} {ca : Nat → ClassId} {nW nB : Nat} {E : KS} (X : Cx p m c cc nL s args RX4 D (tysK ca)) (hP : va_P D vwCl (cwK q ca nW nB E) H) (hdg : decode cc pc = .ok (.getfield 64, 3)) (kk : W p l e R s m args below meth c H locs cells slots Q (F0 m (pc + 3) ls (.long (kretired E) :: rest))) : W p l e R s m args below meth c H locs cells slots Q (F0 m pc ls (.ref (q 0) :: rest)) :=
  va_get (D := D) (ci := 4)  (C := RX4) (T := TX4) (N := 9)  X.1.1 X.1.2.1 X.1.2.2.2.2 inX4 X.1.2.2.2.1 X.2 hP 0 rfl rfl 7 (by decide) (X.1.2.2.2.2 _ wd_161) (fun _ h => h) rfl hdg kk
theorem pf_X4_64 {p : Program} {l : Launch} {e : Env} {R : Room} {s : State} {m : MethodId} {args : Array Value} {below : List Frame} {meth : Method} {c : Code} {H H0 : Heap} {locs : List Loc} {cells slots : Nat} {Q : State → Prop} {cc : ByteArray} {pc nL : Nat} {ls : Array Slot} {rest : List Value} {D : va_G} {A : Nat → Prop} {q : Nat → Nat} {ca : Nat → ClassId} {nW nB : Nat} {E : KS} (X : Cx p m c cc nL s args RX4 D (tysK ca)) (hP : va_P D vwCl (cwK q ca nW nB E) H) (hD : va_D A (cwK q ca nW nB E)) (hS : va_S A H0 H locs) (v : Int64) (hdg : decode cc pc = .ok (.putfield 64, 3)) (kk : ∀ (H1 : Heap) (locs1 : List Loc), va_P D vwCl (cwK q ca nW nB (kretired_ E v)) H1 → va_D A (cwK q ca nW nB (kretired_ E v)) → va_S A H0 H1 locs1 → W p l e R s m args below meth c H1 locs1 cells slots Q (F0 m (pc + 3) ls rest)) : W p l e R s m args below meth c H locs cells slots Q (F0 m pc ls (.long v :: .ref (q 0) :: rest)) :=
  va_put (D := D) (ci := 4) (v := .long v) (ty := .long) (C := RX4) (T := TX4) (N := 9)  X.1.1 X.1.2.1 X.1.2.2.2.2 inX4 tyX4 tyX4_ok nmX4 X.1.2.2.2.1 X.2 hP hD hS 0 rfl rfl 7 (by decide) (X.1.2.2.2.2 _ wd_161) (fun _ h => h) rfl (by decide +kernel) rfl rfl (Nat.le_of_ble_eq_true rfl) hdg (fun H1 locs1 hP1 hD1 hS1 => kk H1 locs1 hP1 hD1 hS1)
theorem pf_X4_60 {p : Program} {l : Launch} {e : Env} {R : Room} {s : State} {m : MethodId} {args : Array Value} {below : List Frame} {meth : Method} {c : Code} {H H0 : Heap} {locs : List Loc} {cells slots : Nat} {Q : State → Prop} {cc : ByteArray} {pc nL : Nat} {ls : Array Slot} {rest : List Value} {D : va_G} {A : Nat → Prop} {q : Nat → Nat} {ca : Nat → ClassId} {nW nB : Nat} {E : KS} (X : Cx p m c cc nL s args RX4 D (tysK ca)) (hP : va_P D vwCl (cwK q ca nW nB E) H) (hD : va_D A (cwK q ca nW nB E)) (hS : va_S A H0 H locs) (v : Bool) (hdg : decode cc pc = .ok (.putfield 60, 3)) (kk : ∀ (H1 : Heap) (locs1 : List Loc), va_P D vwCl (cwK q ca nW nB (kwaiting_ E v)) H1 → va_D A (cwK q ca nW nB (kwaiting_ E v)) → va_S A H0 H1 locs1 → W p l e R s m args below meth c H1 locs1 cells slots Q (F0 m (pc + 3) ls rest)) : W p l e R s m args below meth c H locs cells slots Q (F0 m pc ls (.int (b2i v) :: .ref (q 0) :: rest)) :=
  va_put (D := D) (ci := 4) (v := .int (b2i v)) (ty := .boolean) (C := RX4) (T := TX4) (N := 9)  X.1.1 X.1.2.1 X.1.2.2.2.2 inX4 tyX4 tyX4_ok nmX4 X.1.2.2.2.1 X.2 hP hD hS 0 rfl rfl 6 (by decide) (X.1.2.2.2.2 _ wd_160) (fun _ h => h) rfl (by decide +kernel) (b2i_nar v) (b2i_fit v) (Nat.le_of_ble_eq_true rfl) hdg (fun H1 locs1 hP1 hD1 hS1 => kk H1 locs1 hP1 hD1 hS1)
theorem gf_X4_60 {p : Program} {l : Launch} {e : Env} {R : Room} {s : State} {m : MethodId} {args : Array Value} {below : List Frame} {meth : Method} {c : Code} {H : Heap} {locs : List Loc} {cells slots : Nat} {Q : State → Prop} {cc : ByteArray} {pc nL : Nat} {ls : Array Slot} {rest : List Value} {D : va_G} {q : Nat → Nat} {ca : Nat → ClassId} {nW nB : Nat} {E : KS} (X : Cx p m c cc nL s args RX4 D (tysK ca)) (hP : va_P D vwCl (cwK q ca nW nB E) H) (hdg : decode cc pc = .ok (.getfield 60, 3)) (kk : W p l e R s m args below meth c H locs cells slots Q (F0 m (pc + 3) ls (.int (b2i (kwaiting E)) :: rest))) : W p l e R s m args below meth c H locs cells slots Q (F0 m pc ls (.ref (q 0) :: rest)) :=
  va_get (D := D) (ci := 4)  (C := RX4) (T := TX4) (N := 9)  X.1.1 X.1.2.1 X.1.2.2.2.2 inX4 X.1.2.2.2.1 X.2 hP 0 rfl rfl 6 (by decide) (X.1.2.2.2.2 _ wd_160) (fun _ h => h) rfl hdg kk
theorem gf_X4_121 {p : Program} {l : Launch} {e : Env} {R : Room} {s : State} {m : MethodId} {args : Array Value} {below : List Frame} {meth : Method} {c : Code} {H : Heap} {locs : List Loc} {cells slots : Nat} {Q : State → Prop} {cc : ByteArray} {pc nL : Nat} {ls : Array Slot} {rest : List Value} {D : va_G} {q : Nat → Nat} {ca : Nat → ClassId} {nW nB : Nat} {E : KS} (X : Cx p m c cc nL s args RX4 D (tysK ca)) (hP : va_P D vwCl (cwK q ca nW nB E) H) (hdg : decode cc pc = .ok (.getfield 121, 3)) (kk : W p l e R s m args below meth c H locs cells slots Q (F0 m (pc + 3) ls (.int (b2i (kon E)) :: rest))) : W p l e R s m args below meth c H locs cells slots Q (F0 m pc ls (.ref (q 6) :: rest)) :=
  va_getN (D := D) (ci := 0)  (C := RX0) (T := TX0) (N := 8)  X.1.1 X.1.2.1 X.1.2.2.2.2 inX0 X.1.2.2.2.1 X.2 hP 6 rfl rfl 0 (by decide) (X.1.2.2.2.2 _ wd_112) (fun _ h => h) rfl hdg kk
theorem pf_X4_68 {p : Program} {l : Launch} {e : Env} {R : Room} {s : State} {m : MethodId} {args : Array Value} {below : List Frame} {meth : Method} {c : Code} {H H0 : Heap} {locs : List Loc} {cells slots : Nat} {Q : State → Prop} {cc : ByteArray} {pc nL : Nat} {ls : Array Slot} {rest : List Value} {D : va_G} {A : Nat → Prop} {q : Nat → Nat} {ca : Nat → ClassId} {nW nB : Nat} {E : KS} (X : Cx p m c cc nL s args RX4 D (tysK ca)) (hP : va_P D vwCl (cwK q ca nW nB E) H) (hD : va_D A (cwK q ca nW nB E)) (hS : va_S A H0 H locs) (v : Int32) (hdg : decode cc pc = .ok (.putfield 68, 3)) (kk : ∀ (H1 : Heap) (locs1 : List Loc), va_P D vwCl (cwK q ca nW nB (klatest_ E v)) H1 → va_D A (cwK q ca nW nB (klatest_ E v)) → va_S A H0 H1 locs1 → W p l e R s m args below meth c H1 locs1 cells slots Q (F0 m (pc + 3) ls rest)) : W p l e R s m args below meth c H locs cells slots Q (F0 m pc ls (.int v :: .ref (q 0) :: rest)) :=
  va_put (D := D) (ci := 4) (v := .int v) (ty := .int) (C := RX4) (T := TX4) (N := 9)  X.1.1 X.1.2.1 X.1.2.2.2.2 inX4 tyX4 tyX4_ok nmX4 X.1.2.2.2.1 X.2 hP hD hS 0 rfl rfl 8 (by decide) (X.1.2.2.2.2 _ wd_162) (fun _ h => h) rfl (by decide +kernel) rfl rfl (Nat.le_of_ble_eq_true rfl) hdg (fun H1 locs1 hP1 hD1 hS1 => kk H1 locs1 hP1 hD1 hS1)
theorem gf_X4_68 {p : Program} {l : Launch} {e : Env} {R : Room} {s : State} {m : MethodId} {args : Array Value} {below : List Frame} {meth : Method} {c : Code} {H : Heap} {locs : List Loc} {cells slots : Nat} {Q : State → Prop} {cc : ByteArray} {pc nL : Nat} {ls : Array Slot} {rest : List Value} {D : va_G} {q : Nat → Nat} {ca : Nat → ClassId} {nW nB : Nat} {E : KS} (X : Cx p m c cc nL s args RX4 D (tysK ca)) (hP : va_P D vwCl (cwK q ca nW nB E) H) (hdg : decode cc pc = .ok (.getfield 68, 3)) (kk : W p l e R s m args below meth c H locs cells slots Q (F0 m (pc + 3) ls (.int (klatest E) :: rest))) : W p l e R s m args below meth c H locs cells slots Q (F0 m pc ls (.ref (q 0) :: rest)) :=
  va_get (D := D) (ci := 4)  (C := RX4) (T := TX4) (N := 9)  X.1.1 X.1.2.1 X.1.2.2.2.2 inX4 X.1.2.2.2.1 X.2 hP 0 rfl rfl 8 (by decide) (X.1.2.2.2.2 _ wd_162) (fun _ h => h) rfl hdg kk
theorem gf_X4_105 {p : Program} {l : Launch} {e : Env} {R : Room} {s : State} {m : MethodId} {args : Array Value} {below : List Frame} {meth : Method} {c : Code} {H : Heap} {locs : List Loc} {cells slots : Nat} {Q : State → Prop} {cc : ByteArray} {pc nL : Nat} {ls : Array Slot} {rest : List Value} {D : va_G} {q : Nat → Nat} {ca : Nat → ClassId} {nW nB : Nat} {E : KS} (X : Cx p m c cc nL s args RX4 D (tysK ca)) (hP : va_P D vwCl (cwK q ca nW nB E) H) (hdg : decode cc pc = .ok (.getfield 105, 3)) (kk : W p l e R s m args below meth c H locs cells slots Q (F0 m (pc + 3) ls (.long (ktime E) :: rest))) : W p l e R s m args below meth c H locs cells slots Q (F0 m pc ls (.ref (q 3) :: rest)) :=
  va_getN (D := D) (ci := 3)  (C := RX3) (T := TX3) (N := 2)  X.1.1 X.1.2.1 X.1.2.2.2.2 inX3 X.1.2.2.2.1 X.2 hP 3 rfl rfl 0 (by decide) (X.1.2.2.2.2 _ wd_82) (fun _ h => h) rfl hdg kk
theorem gf_X4_108 {p : Program} {l : Launch} {e : Env} {R : Room} {s : State} {m : MethodId} {args : Array Value} {below : List Frame} {meth : Method} {c : Code} {H : Heap} {locs : List Loc} {cells slots : Nat} {Q : State → Prop} {cc : ByteArray} {pc nL : Nat} {ls : Array Slot} {rest : List Value} {D : va_G} {q : Nat → Nat} {ca : Nat → ClassId} {nW nB : Nat} {E : KS} (X : Cx p m c cc nL s args RX4 D (tysK ca)) (hP : va_P D vwCl (cwK q ca nW nB E) H) (hdg : decode cc pc = .ok (.getfield 108, 3)) (kk : W p l e R s m args below meth c H locs cells slots Q (F0 m (pc + 3) ls (.long (klimit E) :: rest))) : W p l e R s m args below meth c H locs cells slots Q (F0 m pc ls (.ref (q 3) :: rest)) :=
  va_getN (D := D) (ci := 3)  (C := RX3) (T := TX3) (N := 2)  X.1.1 X.1.2.1 X.1.2.2.2.2 inX3 X.1.2.2.2.1 X.2 hP 3 rfl rfl 1 (by decide) (X.1.2.2.2.2 _ wd_84) (fun _ h => h) rfl hdg kk
theorem gf_X5_58 {p : Program} {l : Launch} {e : Env} {R : Room} {s : State} {m : MethodId} {args : Array Value} {below : List Frame} {meth : Method} {c : Code} {H : Heap} {locs : List Loc} {cells slots : Nat} {Q : State → Prop} {cc : ByteArray} {pc nL : Nat} {ls : Array Slot} {rest : List Value} {D : va_G} {q : Nat → Nat} {ca : Nat → ClassId} {sz mo : Int32} {E : MS} (X : Cx p m c cc nL s args RX5 D (tysM ca)) (hP : va_P D vwCl (cwM q ca sz mo E) H) (hdg : decode cc pc = .ok (.getfield 58, 3)) (kk : W p l e R s m args below meth c H locs cells slots Q (F0 m (pc + 3) ls (.long (mtime E) :: rest))) : W p l e R s m args below meth c H locs cells slots Q (F0 m pc ls (.ref (q 0) :: rest)) :=
  va_get (D := D) (ci := 5)  (C := RX5) (T := TX5) (N := 27)  X.1.1 X.1.2.1 X.1.2.2.2.2 inX5 X.1.2.2.2.1 X.2 hP 0 rfl rfl 13 (by decide) (X.1.2.2.2.2 _ wd_482) (fun _ h => h) rfl hdg kk
theorem gf_X5_64 {p : Program} {l : Launch} {e : Env} {R : Room} {s : State} {m : MethodId} {args : Array Value} {below : List Frame} {meth : Method} {c : Code} {H : Heap} {locs : List Loc} {cells slots : Nat} {Q : State → Prop} {cc : ByteArray} {pc nL : Nat} {ls : Array Slot} {rest : List Value} {D : va_G} {q : Nat → Nat} {ca : Nat → ClassId} {sz mo : Int32} {E : MS} (X : Cx p m c cc nL s args RX5 D (tysM ca)) (hP : va_P D vwCl (cwM q ca sz mo E) H) (hdg : decode cc pc = .ok (.getfield 64, 3)) (kk : W p l e R s m args below meth c H locs cells slots Q (F0 m (pc + 3) ls (.long (mlimit E) :: rest))) : W p l e R s m args below meth c H locs cells slots Q (F0 m pc ls (.ref (q 0) :: rest)) :=
  va_get (D := D) (ci := 5)  (C := RX5) (T := TX5) (N := 27)  X.1.1 X.1.2.1 X.1.2.2.2.2 inX5 X.1.2.2.2.1 X.2 hP 0 rfl rfl 14 (by decide) (X.1.2.2.2.2 _ wd_483) (fun _ h => h) rfl hdg kk
theorem gf_X5_33 {p : Program} {l : Launch} {e : Env} {R : Room} {s : State} {m : MethodId} {args : Array Value} {below : List Frame} {meth : Method} {c : Code} {H : Heap} {locs : List Loc} {cells slots : Nat} {Q : State → Prop} {cc : ByteArray} {pc nL : Nat} {ls : Array Slot} {rest : List Value} {D : va_G} {q : Nat → Nat} {ca : Nat → ClassId} {sz mo : Int32} {E : MS} (X : Cx p m c cc nL s args RX5 D (tysM ca)) (hP : va_P D vwCl (cwM q ca sz mo E) H) (hdg : decode cc pc = .ok (.getfield 33, 3)) (kk : W p l e R s m args below meth c H locs cells slots Q (F0 m (pc + 3) ls (.int (b2i (mmie E)) :: rest))) : W p l e R s m args below meth c H locs cells slots Q (F0 m pc ls (.ref (q 0) :: rest)) :=
  va_get (D := D) (ci := 5)  (C := RX5) (T := TX5) (N := 27)  X.1.1 X.1.2.1 X.1.2.2.2.2 inX5 X.1.2.2.2.1 X.2 hP 0 rfl rfl 5 (by decide) (X.1.2.2.2.2 _ wd_474) (fun _ h => h) rfl hdg kk
theorem gf_X5_37 {p : Program} {l : Launch} {e : Env} {R : Room} {s : State} {m : MethodId} {args : Array Value} {below : List Frame} {meth : Method} {c : Code} {H : Heap} {locs : List Loc} {cells slots : Nat} {Q : State → Prop} {cc : ByteArray} {pc nL : Nat} {ls : Array Slot} {rest : List Value} {D : va_G} {q : Nat → Nat} {ca : Nat → ClassId} {sz mo : Int32} {E : MS} (X : Cx p m c cc nL s args RX5 D (tysM ca)) (hP : va_P D vwCl (cwM q ca sz mo E) H) (hdg : decode cc pc = .ok (.getfield 37, 3)) (kk : W p l e R s m args below meth c H locs cells slots Q (F0 m (pc + 3) ls (.int (b2i (mmpie E)) :: rest))) : W p l e R s m args below meth c H locs cells slots Q (F0 m pc ls (.ref (q 0) :: rest)) :=
  va_get (D := D) (ci := 5)  (C := RX5) (T := TX5) (N := 27)  X.1.1 X.1.2.1 X.1.2.2.2.2 inX5 X.1.2.2.2.1 X.2 hP 0 rfl rfl 6 (by decide) (X.1.2.2.2.2 _ wd_475) (fun _ h => h) rfl hdg kk
theorem gf_X5_40 {p : Program} {l : Launch} {e : Env} {R : Room} {s : State} {m : MethodId} {args : Array Value} {below : List Frame} {meth : Method} {c : Code} {H : Heap} {locs : List Loc} {cells slots : Nat} {Q : State → Prop} {cc : ByteArray} {pc nL : Nat} {ls : Array Slot} {rest : List Value} {D : va_G} {q : Nat → Nat} {ca : Nat → ClassId} {sz mo : Int32} {E : MS} (X : Cx p m c cc nL s args RX5 D (tysM ca)) (hP : va_P D vwCl (cwM q ca sz mo E) H) (hdg : decode cc pc = .ok (.getfield 40, 3)) (kk : W p l e R s m args below meth c H locs cells slots Q (F0 m (pc + 3) ls (.int (mmieBits E) :: rest))) : W p l e R s m args below meth c H locs cells slots Q (F0 m pc ls (.ref (q 0) :: rest)) :=
  va_get (D := D) (ci := 5)  (C := RX5) (T := TX5) (N := 27)  X.1.1 X.1.2.1 X.1.2.2.2.2 inX5 X.1.2.2.2.1 X.2 hP 0 rfl rfl 7 (by decide) (X.1.2.2.2.2 _ wd_476) (fun _ h => h) rfl hdg kk
theorem gf_X5_43 {p : Program} {l : Launch} {e : Env} {R : Room} {s : State} {m : MethodId} {args : Array Value} {below : List Frame} {meth : Method} {c : Code} {H : Heap} {locs : List Loc} {cells slots : Nat} {Q : State → Prop} {cc : ByteArray} {pc nL : Nat} {ls : Array Slot} {rest : List Value} {D : va_G} {q : Nat → Nat} {ca : Nat → ClassId} {sz mo : Int32} {E : MS} (X : Cx p m c cc nL s args RX5 D (tysM ca)) (hP : va_P D vwCl (cwM q ca sz mo E) H) (hdg : decode cc pc = .ok (.getfield 43, 3)) (kk : W p l e R s m args below meth c H locs cells slots Q (F0 m (pc + 3) ls (.int (mmtvec E) :: rest))) : W p l e R s m args below meth c H locs cells slots Q (F0 m pc ls (.ref (q 0) :: rest)) :=
  va_get (D := D) (ci := 5)  (C := RX5) (T := TX5) (N := 27)  X.1.1 X.1.2.1 X.1.2.2.2.2 inX5 X.1.2.2.2.1 X.2 hP 0 rfl rfl 8 (by decide) (X.1.2.2.2.2 _ wd_477) (fun _ h => h) rfl hdg kk
theorem gf_X5_46 {p : Program} {l : Launch} {e : Env} {R : Room} {s : State} {m : MethodId} {args : Array Value} {below : List Frame} {meth : Method} {c : Code} {H : Heap} {locs : List Loc} {cells slots : Nat} {Q : State → Prop} {cc : ByteArray} {pc nL : Nat} {ls : Array Slot} {rest : List Value} {D : va_G} {q : Nat → Nat} {ca : Nat → ClassId} {sz mo : Int32} {E : MS} (X : Cx p m c cc nL s args RX5 D (tysM ca)) (hP : va_P D vwCl (cwM q ca sz mo E) H) (hdg : decode cc pc = .ok (.getfield 46, 3)) (kk : W p l e R s m args below meth c H locs cells slots Q (F0 m (pc + 3) ls (.int (mmscratch E) :: rest))) : W p l e R s m args below meth c H locs cells slots Q (F0 m pc ls (.ref (q 0) :: rest)) :=
  va_get (D := D) (ci := 5)  (C := RX5) (T := TX5) (N := 27)  X.1.1 X.1.2.1 X.1.2.2.2.2 inX5 X.1.2.2.2.1 X.2 hP 0 rfl rfl 9 (by decide) (X.1.2.2.2.2 _ wd_478) (fun _ h => h) rfl hdg kk
theorem gf_X5_49 {p : Program} {l : Launch} {e : Env} {R : Room} {s : State} {m : MethodId} {args : Array Value} {below : List Frame} {meth : Method} {c : Code} {H : Heap} {locs : List Loc} {cells slots : Nat} {Q : State → Prop} {cc : ByteArray} {pc nL : Nat} {ls : Array Slot} {rest : List Value} {D : va_G} {q : Nat → Nat} {ca : Nat → ClassId} {sz mo : Int32} {E : MS} (X : Cx p m c cc nL s args RX5 D (tysM ca)) (hP : va_P D vwCl (cwM q ca sz mo E) H) (hdg : decode cc pc = .ok (.getfield 49, 3)) (kk : W p l e R s m args below meth c H locs cells slots Q (F0 m (pc + 3) ls (.int (mmepc E) :: rest))) : W p l e R s m args below meth c H locs cells slots Q (F0 m pc ls (.ref (q 0) :: rest)) :=
  va_get (D := D) (ci := 5)  (C := RX5) (T := TX5) (N := 27)  X.1.1 X.1.2.1 X.1.2.2.2.2 inX5 X.1.2.2.2.1 X.2 hP 0 rfl rfl 10 (by decide) (X.1.2.2.2.2 _ wd_479) (fun _ h => h) rfl hdg kk
theorem gf_X5_52 {p : Program} {l : Launch} {e : Env} {R : Room} {s : State} {m : MethodId} {args : Array Value} {below : List Frame} {meth : Method} {c : Code} {H : Heap} {locs : List Loc} {cells slots : Nat} {Q : State → Prop} {cc : ByteArray} {pc nL : Nat} {ls : Array Slot} {rest : List Value} {D : va_G} {q : Nat → Nat} {ca : Nat → ClassId} {sz mo : Int32} {E : MS} (X : Cx p m c cc nL s args RX5 D (tysM ca)) (hP : va_P D vwCl (cwM q ca sz mo E) H) (hdg : decode cc pc = .ok (.getfield 52, 3)) (kk : W p l e R s m args below meth c H locs cells slots Q (F0 m (pc + 3) ls (.int (mmcause E) :: rest))) : W p l e R s m args below meth c H locs cells slots Q (F0 m pc ls (.ref (q 0) :: rest)) :=
  va_get (D := D) (ci := 5)  (C := RX5) (T := TX5) (N := 27)  X.1.1 X.1.2.1 X.1.2.2.2.2 inX5 X.1.2.2.2.1 X.2 hP 0 rfl rfl 11 (by decide) (X.1.2.2.2.2 _ wd_480) (fun _ h => h) rfl hdg kk
theorem gf_X5_55 {p : Program} {l : Launch} {e : Env} {R : Room} {s : State} {m : MethodId} {args : Array Value} {below : List Frame} {meth : Method} {c : Code} {H : Heap} {locs : List Loc} {cells slots : Nat} {Q : State → Prop} {cc : ByteArray} {pc nL : Nat} {ls : Array Slot} {rest : List Value} {D : va_G} {q : Nat → Nat} {ca : Nat → ClassId} {sz mo : Int32} {E : MS} (X : Cx p m c cc nL s args RX5 D (tysM ca)) (hP : va_P D vwCl (cwM q ca sz mo E) H) (hdg : decode cc pc = .ok (.getfield 55, 3)) (kk : W p l e R s m args below meth c H locs cells slots Q (F0 m (pc + 3) ls (.int (mmtval E) :: rest))) : W p l e R s m args below meth c H locs cells slots Q (F0 m pc ls (.ref (q 0) :: rest)) :=
  va_get (D := D) (ci := 5)  (C := RX5) (T := TX5) (N := 27)  X.1.1 X.1.2.1 X.1.2.2.2.2 inX5 X.1.2.2.2.1 X.2 hP 0 rfl rfl 12 (by decide) (X.1.2.2.2.2 _ wd_481) (fun _ h => h) rfl hdg kk
theorem gf_X5_20 {p : Program} {l : Launch} {e : Env} {R : Room} {s : State} {m : MethodId} {args : Array Value} {below : List Frame} {meth : Method} {c : Code} {H : Heap} {locs : List Loc} {cells slots : Nat} {Q : State → Prop} {cc : ByteArray} {pc nL : Nat} {ls : Array Slot} {rest : List Value} {D : va_G} {q : Nat → Nat} {ca : Nat → ClassId} {sz mo : Int32} {E : MS} (X : Cx p m c cc nL s args RX5 D (tysM ca)) (hP : va_P D vwCl (cwM q ca sz mo E) H) (hdg : decode cc pc = .ok (.getfield 20, 3)) (kk : W p l e R s m args below meth c H locs cells slots Q (F0 m (pc + 3) ls (.int sz :: rest))) : W p l e R s m args below meth c H locs cells slots Q (F0 m pc ls (.ref (q 0) :: rest)) :=
  va_get (D := D) (ci := 5)  (C := RX5) (T := TX5) (N := 27)  X.1.1 X.1.2.1 X.1.2.2.2.2 inX5 X.1.2.2.2.1 X.2 hP 0 rfl rfl 0 (by decide) (X.1.2.2.2.2 _ wd_469) (fun _ h => h) rfl hdg kk
theorem gf_X5_8 {p : Program} {l : Launch} {e : Env} {R : Room} {s : State} {m : MethodId} {args : Array Value} {below : List Frame} {meth : Method} {c : Code} {H : Heap} {locs : List Loc} {cells slots : Nat} {Q : State → Prop} {cc : ByteArray} {pc nL : Nat} {ls : Array Slot} {rest : List Value} {D : va_G} {q : Nat → Nat} {ca : Nat → ClassId} {sz mo : Int32} {E : MS} (X : Cx p m c cc nL s args RX5 D (tysM ca)) (hP : va_P D vwCl (cwM q ca sz mo E) H) (hdg : decode cc pc = .ok (.getfield 8, 3)) (kk : W p l e R s m args below meth c H locs cells slots Q (F0 m (pc + 3) ls (.ref (q 1) :: rest))) : W p l e R s m args below meth c H locs cells slots Q (F0 m pc ls (.ref (q 0) :: rest)) :=
  va_get (D := D) (ci := 5)  (C := RX5) (T := TX5) (N := 27)  X.1.1 X.1.2.1 X.1.2.2.2.2 inX5 X.1.2.2.2.1 X.2 hP 0 rfl rfl 2 (by decide) (X.1.2.2.2.2 _ wd_471) (fun _ h => h) rfl hdg kk
theorem gf_X5_67 {p : Program} {l : Launch} {e : Env} {R : Room} {s : State} {m : MethodId} {args : Array Value} {below : List Frame} {meth : Method} {c : Code} {H : Heap} {locs : List Loc} {cells slots : Nat} {Q : State → Prop} {cc : ByteArray} {pc nL : Nat} {ls : Array Slot} {rest : List Value} {D : va_G} {q : Nat → Nat} {ca : Nat → ClassId} {sz mo : Int32} {E : MS} (X : Cx p m c cc nL s args RX5 D (tysM ca)) (hP : va_P D vwCl (cwM q ca sz mo E) H) (hdg : decode cc pc = .ok (.getfield 67, 3)) (kk : W p l e R s m args below meth c H locs cells slots Q (F0 m (pc + 3) ls (.int (msentMany E) :: rest))) : W p l e R s m args below meth c H locs cells slots Q (F0 m pc ls (.ref (q 0) :: rest)) :=
  va_get (D := D) (ci := 5)  (C := RX5) (T := TX5) (N := 27)  X.1.1 X.1.2.1 X.1.2.2.2.2 inX5 X.1.2.2.2.1 X.2 hP 0 rfl rfl 16 (by decide) (X.1.2.2.2.2 _ wd_485) (fun _ h => h) rfl hdg kk
theorem gf_X5_17 {p : Program} {l : Launch} {e : Env} {R : Room} {s : State} {m : MethodId} {args : Array Value} {below : List Frame} {meth : Method} {c : Code} {H : Heap} {locs : List Loc} {cells slots : Nat} {Q : State → Prop} {cc : ByteArray} {pc nL : Nat} {ls : Array Slot} {rest : List Value} {D : va_G} {q : Nat → Nat} {ca : Nat → ClassId} {sz mo : Int32} {E : MS} (X : Cx p m c cc nL s args RX5 D (tysM ca)) (hP : va_P D vwCl (cwM q ca sz mo E) H) (hdg : decode cc pc = .ok (.getfield 17, 3)) (kk : W p l e R s m args below meth c H locs cells slots Q (F0 m (pc + 3) ls (.ref (q 3) :: rest))) : W p l e R s m args below meth c H locs cells slots Q (F0 m pc ls (.ref (q 0) :: rest)) :=
  va_get (D := D) (ci := 5)  (C := RX5) (T := TX5) (N := 27)  X.1.1 X.1.2.1 X.1.2.2.2.2 inX5 X.1.2.2.2.1 X.2 hP 0 rfl rfl 15 (by decide) (X.1.2.2.2.2 _ wd_484) (fun _ h => h) rfl hdg kk
theorem gf_X5_30 {p : Program} {l : Launch} {e : Env} {R : Room} {s : State} {m : MethodId} {args : Array Value} {below : List Frame} {meth : Method} {c : Code} {H : Heap} {locs : List Loc} {cells slots : Nat} {Q : State → Prop} {cc : ByteArray} {pc nL : Nat} {ls : Array Slot} {rest : List Value} {D : va_G} {q : Nat → Nat} {ca : Nat → ClassId} {sz mo : Int32} {E : MS} (X : Cx p m c cc nL s args RX5 D (tysM ca)) (hP : va_P D vwCl (cwM q ca sz mo E) H) (hdg : decode cc pc = .ok (.getfield 30, 3)) (kk : W p l e R s m args below meth c H locs cells slots Q (F0 m (pc + 3) ls (.int (mpc E) :: rest))) : W p l e R s m args below meth c H locs cells slots Q (F0 m pc ls (.ref (q 0) :: rest)) :=
  va_get (D := D) (ci := 5)  (C := RX5) (T := TX5) (N := 27)  X.1.1 X.1.2.1 X.1.2.2.2.2 inX5 X.1.2.2.2.1 X.2 hP 0 rfl rfl 4 (by decide) (X.1.2.2.2.2 _ wd_473) (fun _ h => h) rfl hdg kk
theorem gf_X5_14 {p : Program} {l : Launch} {e : Env} {R : Room} {s : State} {m : MethodId} {args : Array Value} {below : List Frame} {meth : Method} {c : Code} {H : Heap} {locs : List Loc} {cells slots : Nat} {Q : State → Prop} {cc : ByteArray} {pc nL : Nat} {ls : Array Slot} {rest : List Value} {D : va_G} {q : Nat → Nat} {ca : Nat → ClassId} {sz mo : Int32} {E : MS} (X : Cx p m c cc nL s args RX5 D (tysM ca)) (hP : va_P D vwCl (cwM q ca sz mo E) H) (hdg : decode cc pc = .ok (.getfield 14, 3)) (kk : W p l e R s m args below meth c H locs cells slots Q (F0 m (pc + 3) ls (.ref (q 2) :: rest))) : W p l e R s m args below meth c H locs cells slots Q (F0 m pc ls (.ref (q 0) :: rest)) :=
  va_get (D := D) (ci := 5)  (C := RX5) (T := TX5) (N := 27)  X.1.1 X.1.2.1 X.1.2.2.2.2 inX5 X.1.2.2.2.1 X.2 hP 0 rfl rfl 3 (by decide) (X.1.2.2.2.2 _ wd_472) (fun _ h => h) rfl hdg kk
theorem pf_X5_49 {p : Program} {l : Launch} {e : Env} {R : Room} {s : State} {m : MethodId} {args : Array Value} {below : List Frame} {meth : Method} {c : Code} {H H0 : Heap} {locs : List Loc} {cells slots : Nat} {Q : State → Prop} {cc : ByteArray} {pc nL : Nat} {ls : Array Slot} {rest : List Value} {D : va_G} {A : Nat → Prop} {q : Nat → Nat} {ca : Nat → ClassId} {sz mo : Int32} {E : MS} (X : Cx p m c cc nL s args RX5 D (tysM ca)) (hP : va_P D vwCl (cwM q ca sz mo E) H) (hD : va_D A (cwM q ca sz mo E)) (hS : va_S A H0 H locs) (v : Int32) (hdg : decode cc pc = .ok (.putfield 49, 3)) (kk : ∀ (H1 : Heap) (locs1 : List Loc), va_P D vwCl (cwM q ca sz mo (mmepc_ E v)) H1 → va_D A (cwM q ca sz mo (mmepc_ E v)) → va_S A H0 H1 locs1 → W p l e R s m args below meth c H1 locs1 cells slots Q (F0 m (pc + 3) ls rest)) : W p l e R s m args below meth c H locs cells slots Q (F0 m pc ls (.int v :: .ref (q 0) :: rest)) :=
  va_put (D := D) (ci := 5) (v := .int v) (ty := .int) (C := RX5) (T := TX5) (N := 27)  X.1.1 X.1.2.1 X.1.2.2.2.2 inX5 tyX5 tyX5_ok nmX5 X.1.2.2.2.1 X.2 hP hD hS 0 rfl rfl 10 (by decide) (X.1.2.2.2.2 _ wd_479) (fun _ h => h) rfl (by decide +kernel) rfl rfl (Nat.le_of_ble_eq_true rfl) hdg (fun H1 locs1 hP1 hD1 hS1 => kk H1 locs1 hP1 hD1 hS1)
theorem pf_X5_52 {p : Program} {l : Launch} {e : Env} {R : Room} {s : State} {m : MethodId} {args : Array Value} {below : List Frame} {meth : Method} {c : Code} {H H0 : Heap} {locs : List Loc} {cells slots : Nat} {Q : State → Prop} {cc : ByteArray} {pc nL : Nat} {ls : Array Slot} {rest : List Value} {D : va_G} {A : Nat → Prop} {q : Nat → Nat} {ca : Nat → ClassId} {sz mo : Int32} {E : MS} (X : Cx p m c cc nL s args RX5 D (tysM ca)) (hP : va_P D vwCl (cwM q ca sz mo E) H) (hD : va_D A (cwM q ca sz mo E)) (hS : va_S A H0 H locs) (v : Int32) (hdg : decode cc pc = .ok (.putfield 52, 3)) (kk : ∀ (H1 : Heap) (locs1 : List Loc), va_P D vwCl (cwM q ca sz mo (mmcause_ E v)) H1 → va_D A (cwM q ca sz mo (mmcause_ E v)) → va_S A H0 H1 locs1 → W p l e R s m args below meth c H1 locs1 cells slots Q (F0 m (pc + 3) ls rest)) : W p l e R s m args below meth c H locs cells slots Q (F0 m pc ls (.int v :: .ref (q 0) :: rest)) :=
  va_put (D := D) (ci := 5) (v := .int v) (ty := .int) (C := RX5) (T := TX5) (N := 27)  X.1.1 X.1.2.1 X.1.2.2.2.2 inX5 tyX5 tyX5_ok nmX5 X.1.2.2.2.1 X.2 hP hD hS 0 rfl rfl 11 (by decide) (X.1.2.2.2.2 _ wd_480) (fun _ h => h) rfl (by decide +kernel) rfl rfl (Nat.le_of_ble_eq_true rfl) hdg (fun H1 locs1 hP1 hD1 hS1 => kk H1 locs1 hP1 hD1 hS1)
theorem pf_X5_55 {p : Program} {l : Launch} {e : Env} {R : Room} {s : State} {m : MethodId} {args : Array Value} {below : List Frame} {meth : Method} {c : Code} {H H0 : Heap} {locs : List Loc} {cells slots : Nat} {Q : State → Prop} {cc : ByteArray} {pc nL : Nat} {ls : Array Slot} {rest : List Value} {D : va_G} {A : Nat → Prop} {q : Nat → Nat} {ca : Nat → ClassId} {sz mo : Int32} {E : MS} (X : Cx p m c cc nL s args RX5 D (tysM ca)) (hP : va_P D vwCl (cwM q ca sz mo E) H) (hD : va_D A (cwM q ca sz mo E)) (hS : va_S A H0 H locs) (v : Int32) (hdg : decode cc pc = .ok (.putfield 55, 3)) (kk : ∀ (H1 : Heap) (locs1 : List Loc), va_P D vwCl (cwM q ca sz mo (mmtval_ E v)) H1 → va_D A (cwM q ca sz mo (mmtval_ E v)) → va_S A H0 H1 locs1 → W p l e R s m args below meth c H1 locs1 cells slots Q (F0 m (pc + 3) ls rest)) : W p l e R s m args below meth c H locs cells slots Q (F0 m pc ls (.int v :: .ref (q 0) :: rest)) :=
  va_put (D := D) (ci := 5) (v := .int v) (ty := .int) (C := RX5) (T := TX5) (N := 27)  X.1.1 X.1.2.1 X.1.2.2.2.2 inX5 tyX5 tyX5_ok nmX5 X.1.2.2.2.1 X.2 hP hD hS 0 rfl rfl 12 (by decide) (X.1.2.2.2.2 _ wd_481) (fun _ h => h) rfl (by decide +kernel) rfl rfl (Nat.le_of_ble_eq_true rfl) hdg (fun H1 locs1 hP1 hD1 hS1 => kk H1 locs1 hP1 hD1 hS1)
theorem pf_X5_37 {p : Program} {l : Launch} {e : Env} {R : Room} {s : State} {m : MethodId} {args : Array Value} {below : List Frame} {meth : Method} {c : Code} {H H0 : Heap} {locs : List Loc} {cells slots : Nat} {Q : State → Prop} {cc : ByteArray} {pc nL : Nat} {ls : Array Slot} {rest : List Value} {D : va_G} {A : Nat → Prop} {q : Nat → Nat} {ca : Nat → ClassId} {sz mo : Int32} {E : MS} (X : Cx p m c cc nL s args RX5 D (tysM ca)) (hP : va_P D vwCl (cwM q ca sz mo E) H) (hD : va_D A (cwM q ca sz mo E)) (hS : va_S A H0 H locs) (v : Bool) (hdg : decode cc pc = .ok (.putfield 37, 3)) (kk : ∀ (H1 : Heap) (locs1 : List Loc), va_P D vwCl (cwM q ca sz mo (mmpie_ E v)) H1 → va_D A (cwM q ca sz mo (mmpie_ E v)) → va_S A H0 H1 locs1 → W p l e R s m args below meth c H1 locs1 cells slots Q (F0 m (pc + 3) ls rest)) : W p l e R s m args below meth c H locs cells slots Q (F0 m pc ls (.int (b2i v) :: .ref (q 0) :: rest)) :=
  va_put (D := D) (ci := 5) (v := .int (b2i v)) (ty := .boolean) (C := RX5) (T := TX5) (N := 27)  X.1.1 X.1.2.1 X.1.2.2.2.2 inX5 tyX5 tyX5_ok nmX5 X.1.2.2.2.1 X.2 hP hD hS 0 rfl rfl 6 (by decide) (X.1.2.2.2.2 _ wd_475) (fun _ h => h) rfl (by decide +kernel) (b2i_nar v) (b2i_fit v) (Nat.le_of_ble_eq_true rfl) hdg (fun H1 locs1 hP1 hD1 hS1 => kk H1 locs1 hP1 hD1 hS1)
theorem pf_X5_33 {p : Program} {l : Launch} {e : Env} {R : Room} {s : State} {m : MethodId} {args : Array Value} {below : List Frame} {meth : Method} {c : Code} {H H0 : Heap} {locs : List Loc} {cells slots : Nat} {Q : State → Prop} {cc : ByteArray} {pc nL : Nat} {ls : Array Slot} {rest : List Value} {D : va_G} {A : Nat → Prop} {q : Nat → Nat} {ca : Nat → ClassId} {sz mo : Int32} {E : MS} (X : Cx p m c cc nL s args RX5 D (tysM ca)) (hP : va_P D vwCl (cwM q ca sz mo E) H) (hD : va_D A (cwM q ca sz mo E)) (hS : va_S A H0 H locs) (v : Bool) (hdg : decode cc pc = .ok (.putfield 33, 3)) (kk : ∀ (H1 : Heap) (locs1 : List Loc), va_P D vwCl (cwM q ca sz mo (mmie_ E v)) H1 → va_D A (cwM q ca sz mo (mmie_ E v)) → va_S A H0 H1 locs1 → W p l e R s m args below meth c H1 locs1 cells slots Q (F0 m (pc + 3) ls rest)) : W p l e R s m args below meth c H locs cells slots Q (F0 m pc ls (.int (b2i v) :: .ref (q 0) :: rest)) :=
  va_put (D := D) (ci := 5) (v := .int (b2i v)) (ty := .boolean) (C := RX5) (T := TX5) (N := 27)  X.1.1 X.1.2.1 X.1.2.2.2.2 inX5 tyX5 tyX5_ok nmX5 X.1.2.2.2.1 X.2 hP hD hS 0 rfl rfl 5 (by decide) (X.1.2.2.2.2 _ wd_474) (fun _ h => h) rfl (by decide +kernel) (b2i_nar v) (b2i_fit v) (Nat.le_of_ble_eq_true rfl) hdg (fun H1 locs1 hP1 hD1 hS1 => kk H1 locs1 hP1 hD1 hS1)
theorem pf_X5_30 {p : Program} {l : Launch} {e : Env} {R : Room} {s : State} {m : MethodId} {args : Array Value} {below : List Frame} {meth : Method} {c : Code} {H H0 : Heap} {locs : List Loc} {cells slots : Nat} {Q : State → Prop} {cc : ByteArray} {pc nL : Nat} {ls : Array Slot} {rest : List Value} {D : va_G} {A : Nat → Prop} {q : Nat → Nat} {ca : Nat → ClassId} {sz mo : Int32} {E : MS} (X : Cx p m c cc nL s args RX5 D (tysM ca)) (hP : va_P D vwCl (cwM q ca sz mo E) H) (hD : va_D A (cwM q ca sz mo E)) (hS : va_S A H0 H locs) (v : Int32) (hdg : decode cc pc = .ok (.putfield 30, 3)) (kk : ∀ (H1 : Heap) (locs1 : List Loc), va_P D vwCl (cwM q ca sz mo (mpc_ E v)) H1 → va_D A (cwM q ca sz mo (mpc_ E v)) → va_S A H0 H1 locs1 → W p l e R s m args below meth c H1 locs1 cells slots Q (F0 m (pc + 3) ls rest)) : W p l e R s m args below meth c H locs cells slots Q (F0 m pc ls (.int v :: .ref (q 0) :: rest)) :=
  va_put (D := D) (ci := 5) (v := .int v) (ty := .int) (C := RX5) (T := TX5) (N := 27)  X.1.1 X.1.2.1 X.1.2.2.2.2 inX5 tyX5 tyX5_ok nmX5 X.1.2.2.2.1 X.2 hP hD hS 0 rfl rfl 4 (by decide) (X.1.2.2.2.2 _ wd_473) (fun _ h => h) rfl (by decide +kernel) rfl rfl (Nat.le_of_ble_eq_true rfl) hdg (fun H1 locs1 hP1 hD1 hS1 => kk H1 locs1 hP1 hD1 hS1)
theorem gf_X5_124 {p : Program} {l : Launch} {e : Env} {R : Room} {s : State} {m : MethodId} {args : Array Value} {below : List Frame} {meth : Method} {c : Code} {H : Heap} {locs : List Loc} {cells slots : Nat} {Q : State → Prop} {cc : ByteArray} {pc nL : Nat} {ls : Array Slot} {rest : List Value} {D : va_G} {q : Nat → Nat} {ca : Nat → ClassId} {sz mo : Int32} {E : MS} (X : Cx p m c cc nL s args RX5 D (tysM ca)) (hP : va_P D vwCl (cwM q ca sz mo E) H) (hdg : decode cc pc = .ok (.getfield 124, 3)) (kk : W p l e R s m args below meth c H locs cells slots Q (F0 m (pc + 3) ls (.int (md E) :: rest))) : W p l e R s m args below meth c H locs cells slots Q (F0 m pc ls (.ref (q 0) :: rest)) :=
  va_get (D := D) (ci := 5)  (C := RX5) (T := TX5) (N := 27)  X.1.1 X.1.2.1 X.1.2.2.2.2 inX5 X.1.2.2.2.1 X.2 hP 0 rfl rfl 21 (by decide) (X.1.2.2.2.2 _ wd_490) (fun _ h => h) rfl hdg kk
theorem pf_X5_139 {p : Program} {l : Launch} {e : Env} {R : Room} {s : State} {m : MethodId} {args : Array Value} {below : List Frame} {meth : Method} {c : Code} {H H0 : Heap} {locs : List Loc} {cells slots : Nat} {Q : State → Prop} {cc : ByteArray} {pc nL : Nat} {ls : Array Slot} {rest : List Value} {D : va_G} {A : Nat → Prop} {q : Nat → Nat} {ca : Nat → ClassId} {sz mo : Int32} {E : MS} (X : Cx p m c cc nL s args RX5 D (tysM ca)) (hP : va_P D vwCl (cwM q ca sz mo E) H) (hD : va_D A (cwM q ca sz mo E)) (hS : va_S A H0 H locs) (v : Int32) (hdg : decode cc pc = .ok (.putfield 139, 3)) (kk : ∀ (H1 : Heap) (locs1 : List Loc), va_P D vwCl (cwM q ca sz mo (mnext_ E v)) H1 → va_D A (cwM q ca sz mo (mnext_ E v)) → va_S A H0 H1 locs1 → W p l e R s m args below meth c H1 locs1 cells slots Q (F0 m (pc + 3) ls rest)) : W p l e R s m args below meth c H locs cells slots Q (F0 m pc ls (.int v :: .ref (q 0) :: rest)) :=
  va_put (D := D) (ci := 5) (v := .int v) (ty := .int) (C := RX5) (T := TX5) (N := 27)  X.1.1 X.1.2.1 X.1.2.2.2.2 inX5 tyX5 tyX5_ok nmX5 X.1.2.2.2.1 X.2 hP hD hS 0 rfl rfl 26 (by decide) (X.1.2.2.2.2 _ wd_495) (fun _ h => h) rfl (by decide +kernel) rfl rfl (Nat.le_of_ble_eq_true rfl) hdg (fun H1 locs1 hP1 hD1 hS1 => kk H1 locs1 hP1 hD1 hS1)
theorem gf_X5_118 {p : Program} {l : Launch} {e : Env} {R : Room} {s : State} {m : MethodId} {args : Array Value} {below : List Frame} {meth : Method} {c : Code} {H : Heap} {locs : List Loc} {cells slots : Nat} {Q : State → Prop} {cc : ByteArray} {pc nL : Nat} {ls : Array Slot} {rest : List Value} {D : va_G} {q : Nat → Nat} {ca : Nat → ClassId} {sz mo : Int32} {E : MS} (X : Cx p m c cc nL s args RX5 D (tysM ca)) (hP : va_P D vwCl (cwM q ca sz mo E) H) (hdg : decode cc pc = .ok (.getfield 118, 3)) (kk : W p l e R s m args below meth c H locs cells slots Q (F0 m (pc + 3) ls (.int (mword E) :: rest))) : W p l e R s m args below meth c H locs cells slots Q (F0 m pc ls (.ref (q 0) :: rest)) :=
  va_get (D := D) (ci := 5)  (C := RX5) (T := TX5) (N := 27)  X.1.1 X.1.2.1 X.1.2.2.2.2 inX5 X.1.2.2.2.1 X.2 hP 0 rfl rfl 20 (by decide) (X.1.2.2.2.2 _ wd_489) (fun _ h => h) rfl hdg kk
theorem gf_X5_130 {p : Program} {l : Launch} {e : Env} {R : Room} {s : State} {m : MethodId} {args : Array Value} {below : List Frame} {meth : Method} {c : Code} {H : Heap} {locs : List Loc} {cells slots : Nat} {Q : State → Prop} {cc : ByteArray} {pc nL : Nat} {ls : Array Slot} {rest : List Value} {D : va_G} {q : Nat → Nat} {ca : Nat → ClassId} {sz mo : Int32} {E : MS} (X : Cx p m c cc nL s args RX5 D (tysM ca)) (hP : va_P D vwCl (cwM q ca sz mo E) H) (hdg : decode cc pc = .ok (.getfield 130, 3)) (kk : W p l e R s m args below meth c H locs cells slots Q (F0 m (pc + 3) ls (.int (ms E) :: rest))) : W p l e R s m args below meth c H locs cells slots Q (F0 m pc ls (.ref (q 0) :: rest)) :=
  va_get (D := D) (ci := 5)  (C := RX5) (T := TX5) (N := 27)  X.1.1 X.1.2.1 X.1.2.2.2.2 inX5 X.1.2.2.2.1 X.2 hP 0 rfl rfl 23 (by decide) (X.1.2.2.2.2 _ wd_492) (fun _ h => h) rfl hdg kk
theorem gf_X5_133 {p : Program} {l : Launch} {e : Env} {R : Room} {s : State} {m : MethodId} {args : Array Value} {below : List Frame} {meth : Method} {c : Code} {H : Heap} {locs : List Loc} {cells slots : Nat} {Q : State → Prop} {cc : ByteArray} {pc nL : Nat} {ls : Array Slot} {rest : List Value} {D : va_G} {q : Nat → Nat} {ca : Nat → ClassId} {sz mo : Int32} {E : MS} (X : Cx p m c cc nL s args RX5 D (tysM ca)) (hP : va_P D vwCl (cwM q ca sz mo E) H) (hdg : decode cc pc = .ok (.getfield 133, 3)) (kk : W p l e R s m args below meth c H locs cells slots Q (F0 m (pc + 3) ls (.int (mt E) :: rest))) : W p l e R s m args below meth c H locs cells slots Q (F0 m pc ls (.ref (q 0) :: rest)) :=
  va_get (D := D) (ci := 5)  (C := RX5) (T := TX5) (N := 27)  X.1.1 X.1.2.1 X.1.2.2.2.2 inX5 X.1.2.2.2.1 X.2 hP 0 rfl rfl 24 (by decide) (X.1.2.2.2.2 _ wd_493) (fun _ h => h) rfl hdg kk
theorem gf_X5_127 {p : Program} {l : Launch} {e : Env} {R : Room} {s : State} {m : MethodId} {args : Array Value} {below : List Frame} {meth : Method} {c : Code} {H : Heap} {locs : List Loc} {cells slots : Nat} {Q : State → Prop} {cc : ByteArray} {pc nL : Nat} {ls : Array Slot} {rest : List Value} {D : va_G} {q : Nat → Nat} {ca : Nat → ClassId} {sz mo : Int32} {E : MS} (X : Cx p m c cc nL s args RX5 D (tysM ca)) (hP : va_P D vwCl (cwM q ca sz mo E) H) (hdg : decode cc pc = .ok (.getfield 127, 3)) (kk : W p l e R s m args below meth c H locs cells slots Q (F0 m (pc + 3) ls (.int (mf E) :: rest))) : W p l e R s m args below meth c H locs cells slots Q (F0 m pc ls (.ref (q 0) :: rest)) :=
  va_get (D := D) (ci := 5)  (C := RX5) (T := TX5) (N := 27)  X.1.1 X.1.2.1 X.1.2.2.2.2 inX5 X.1.2.2.2.1 X.2 hP 0 rfl rfl 22 (by decide) (X.1.2.2.2.2 _ wd_491) (fun _ h => h) rfl hdg kk
theorem pf_X5_40 {p : Program} {l : Launch} {e : Env} {R : Room} {s : State} {m : MethodId} {args : Array Value} {below : List Frame} {meth : Method} {c : Code} {H H0 : Heap} {locs : List Loc} {cells slots : Nat} {Q : State → Prop} {cc : ByteArray} {pc nL : Nat} {ls : Array Slot} {rest : List Value} {D : va_G} {A : Nat → Prop} {q : Nat → Nat} {ca : Nat → ClassId} {sz mo : Int32} {E : MS} (X : Cx p m c cc nL s args RX5 D (tysM ca)) (hP : va_P D vwCl (cwM q ca sz mo E) H) (hD : va_D A (cwM q ca sz mo E)) (hS : va_S A H0 H locs) (v : Int32) (hdg : decode cc pc = .ok (.putfield 40, 3)) (kk : ∀ (H1 : Heap) (locs1 : List Loc), va_P D vwCl (cwM q ca sz mo (mmieBits_ E v)) H1 → va_D A (cwM q ca sz mo (mmieBits_ E v)) → va_S A H0 H1 locs1 → W p l e R s m args below meth c H1 locs1 cells slots Q (F0 m (pc + 3) ls rest)) : W p l e R s m args below meth c H locs cells slots Q (F0 m pc ls (.int v :: .ref (q 0) :: rest)) :=
  va_put (D := D) (ci := 5) (v := .int v) (ty := .int) (C := RX5) (T := TX5) (N := 27)  X.1.1 X.1.2.1 X.1.2.2.2.2 inX5 tyX5 tyX5_ok nmX5 X.1.2.2.2.1 X.2 hP hD hS 0 rfl rfl 7 (by decide) (X.1.2.2.2.2 _ wd_476) (fun _ h => h) rfl (by decide +kernel) rfl rfl (Nat.le_of_ble_eq_true rfl) hdg (fun H1 locs1 hP1 hD1 hS1 => kk H1 locs1 hP1 hD1 hS1)
theorem pf_X5_43 {p : Program} {l : Launch} {e : Env} {R : Room} {s : State} {m : MethodId} {args : Array Value} {below : List Frame} {meth : Method} {c : Code} {H H0 : Heap} {locs : List Loc} {cells slots : Nat} {Q : State → Prop} {cc : ByteArray} {pc nL : Nat} {ls : Array Slot} {rest : List Value} {D : va_G} {A : Nat → Prop} {q : Nat → Nat} {ca : Nat → ClassId} {sz mo : Int32} {E : MS} (X : Cx p m c cc nL s args RX5 D (tysM ca)) (hP : va_P D vwCl (cwM q ca sz mo E) H) (hD : va_D A (cwM q ca sz mo E)) (hS : va_S A H0 H locs) (v : Int32) (hdg : decode cc pc = .ok (.putfield 43, 3)) (kk : ∀ (H1 : Heap) (locs1 : List Loc), va_P D vwCl (cwM q ca sz mo (mmtvec_ E v)) H1 → va_D A (cwM q ca sz mo (mmtvec_ E v)) → va_S A H0 H1 locs1 → W p l e R s m args below meth c H1 locs1 cells slots Q (F0 m (pc + 3) ls rest)) : W p l e R s m args below meth c H locs cells slots Q (F0 m pc ls (.int v :: .ref (q 0) :: rest)) :=
  va_put (D := D) (ci := 5) (v := .int v) (ty := .int) (C := RX5) (T := TX5) (N := 27)  X.1.1 X.1.2.1 X.1.2.2.2.2 inX5 tyX5 tyX5_ok nmX5 X.1.2.2.2.1 X.2 hP hD hS 0 rfl rfl 8 (by decide) (X.1.2.2.2.2 _ wd_477) (fun _ h => h) rfl (by decide +kernel) rfl rfl (Nat.le_of_ble_eq_true rfl) hdg (fun H1 locs1 hP1 hD1 hS1 => kk H1 locs1 hP1 hD1 hS1)
theorem pf_X5_46 {p : Program} {l : Launch} {e : Env} {R : Room} {s : State} {m : MethodId} {args : Array Value} {below : List Frame} {meth : Method} {c : Code} {H H0 : Heap} {locs : List Loc} {cells slots : Nat} {Q : State → Prop} {cc : ByteArray} {pc nL : Nat} {ls : Array Slot} {rest : List Value} {D : va_G} {A : Nat → Prop} {q : Nat → Nat} {ca : Nat → ClassId} {sz mo : Int32} {E : MS} (X : Cx p m c cc nL s args RX5 D (tysM ca)) (hP : va_P D vwCl (cwM q ca sz mo E) H) (hD : va_D A (cwM q ca sz mo E)) (hS : va_S A H0 H locs) (v : Int32) (hdg : decode cc pc = .ok (.putfield 46, 3)) (kk : ∀ (H1 : Heap) (locs1 : List Loc), va_P D vwCl (cwM q ca sz mo (mmscratch_ E v)) H1 → va_D A (cwM q ca sz mo (mmscratch_ E v)) → va_S A H0 H1 locs1 → W p l e R s m args below meth c H1 locs1 cells slots Q (F0 m (pc + 3) ls rest)) : W p l e R s m args below meth c H locs cells slots Q (F0 m pc ls (.int v :: .ref (q 0) :: rest)) :=
  va_put (D := D) (ci := 5) (v := .int v) (ty := .int) (C := RX5) (T := TX5) (N := 27)  X.1.1 X.1.2.1 X.1.2.2.2.2 inX5 tyX5 tyX5_ok nmX5 X.1.2.2.2.1 X.2 hP hD hS 0 rfl rfl 9 (by decide) (X.1.2.2.2.2 _ wd_478) (fun _ h => h) rfl (by decide +kernel) rfl rfl (Nat.le_of_ble_eq_true rfl) hdg (fun H1 locs1 hP1 hD1 hS1 => kk H1 locs1 hP1 hD1 hS1)
theorem gf_X5_24 {p : Program} {l : Launch} {e : Env} {R : Room} {s : State} {m : MethodId} {args : Array Value} {below : List Frame} {meth : Method} {c : Code} {H : Heap} {locs : List Loc} {cells slots : Nat} {Q : State → Prop} {cc : ByteArray} {pc nL : Nat} {ls : Array Slot} {rest : List Value} {D : va_G} {q : Nat → Nat} {ca : Nat → ClassId} {sz mo : Int32} {E : MS} (X : Cx p m c cc nL s args RX5 D (tysM ca)) (hP : va_P D vwCl (cwM q ca sz mo E) H) (hdg : decode cc pc = .ok (.getfield 24, 3)) (kk : W p l e R s m args below meth c H locs cells slots Q (F0 m (pc + 3) ls (.int mo :: rest))) : W p l e R s m args below meth c H locs cells slots Q (F0 m pc ls (.ref (q 0) :: rest)) :=
  va_get (D := D) (ci := 5)  (C := RX5) (T := TX5) (N := 27)  X.1.1 X.1.2.1 X.1.2.2.2.2 inX5 X.1.2.2.2.1 X.2 hP 0 rfl rfl 1 (by decide) (X.1.2.2.2.2 _ wd_470) (fun _ h => h) rfl hdg kk
theorem gf_X5_136 {p : Program} {l : Launch} {e : Env} {R : Room} {s : State} {m : MethodId} {args : Array Value} {below : List Frame} {meth : Method} {c : Code} {H : Heap} {locs : List Loc} {cells slots : Nat} {Q : State → Prop} {cc : ByteArray} {pc nL : Nat} {ls : Array Slot} {rest : List Value} {D : va_G} {q : Nat → Nat} {ca : Nat → ClassId} {sz mo : Int32} {E : MS} (X : Cx p m c cc nL s args RX5 D (tysM ca)) (hP : va_P D vwCl (cwM q ca sz mo E) H) (hdg : decode cc pc = .ok (.getfield 136, 3)) (kk : W p l e R s m args below meth c H locs cells slots Q (F0 m (pc + 3) ls (.int (mg E) :: rest))) : W p l e R s m args below meth c H locs cells slots Q (F0 m pc ls (.ref (q 0) :: rest)) :=
  va_get (D := D) (ci := 5)  (C := RX5) (T := TX5) (N := 27)  X.1.1 X.1.2.1 X.1.2.2.2.2 inX5 X.1.2.2.2.1 X.2 hP 0 rfl rfl 25 (by decide) (X.1.2.2.2.2 _ wd_494) (fun _ h => h) rfl hdg kk
theorem pf_X5_58 {p : Program} {l : Launch} {e : Env} {R : Room} {s : State} {m : MethodId} {args : Array Value} {below : List Frame} {meth : Method} {c : Code} {H H0 : Heap} {locs : List Loc} {cells slots : Nat} {Q : State → Prop} {cc : ByteArray} {pc nL : Nat} {ls : Array Slot} {rest : List Value} {D : va_G} {A : Nat → Prop} {q : Nat → Nat} {ca : Nat → ClassId} {sz mo : Int32} {E : MS} (X : Cx p m c cc nL s args RX5 D (tysM ca)) (hP : va_P D vwCl (cwM q ca sz mo E) H) (hD : va_D A (cwM q ca sz mo E)) (hS : va_S A H0 H locs) (v : Int64) (hdg : decode cc pc = .ok (.putfield 58, 3)) (kk : ∀ (H1 : Heap) (locs1 : List Loc), va_P D vwCl (cwM q ca sz mo (mtime_ E v)) H1 → va_D A (cwM q ca sz mo (mtime_ E v)) → va_S A H0 H1 locs1 → W p l e R s m args below meth c H1 locs1 cells slots Q (F0 m (pc + 3) ls rest)) : W p l e R s m args below meth c H locs cells slots Q (F0 m pc ls (.long v :: .ref (q 0) :: rest)) :=
  va_put (D := D) (ci := 5) (v := .long v) (ty := .long) (C := RX5) (T := TX5) (N := 27)  X.1.1 X.1.2.1 X.1.2.2.2.2 inX5 tyX5 tyX5_ok nmX5 X.1.2.2.2.1 X.2 hP hD hS 0 rfl rfl 13 (by decide) (X.1.2.2.2.2 _ wd_482) (fun _ h => h) rfl (by decide +kernel) rfl rfl (Nat.le_of_ble_eq_true rfl) hdg (fun H1 locs1 hP1 hD1 hS1 => kk H1 locs1 hP1 hD1 hS1)
theorem pf_X5_64 {p : Program} {l : Launch} {e : Env} {R : Room} {s : State} {m : MethodId} {args : Array Value} {below : List Frame} {meth : Method} {c : Code} {H H0 : Heap} {locs : List Loc} {cells slots : Nat} {Q : State → Prop} {cc : ByteArray} {pc nL : Nat} {ls : Array Slot} {rest : List Value} {D : va_G} {A : Nat → Prop} {q : Nat → Nat} {ca : Nat → ClassId} {sz mo : Int32} {E : MS} (X : Cx p m c cc nL s args RX5 D (tysM ca)) (hP : va_P D vwCl (cwM q ca sz mo E) H) (hD : va_D A (cwM q ca sz mo E)) (hS : va_S A H0 H locs) (v : Int64) (hdg : decode cc pc = .ok (.putfield 64, 3)) (kk : ∀ (H1 : Heap) (locs1 : List Loc), va_P D vwCl (cwM q ca sz mo (mlimit_ E v)) H1 → va_D A (cwM q ca sz mo (mlimit_ E v)) → va_S A H0 H1 locs1 → W p l e R s m args below meth c H1 locs1 cells slots Q (F0 m (pc + 3) ls rest)) : W p l e R s m args below meth c H locs cells slots Q (F0 m pc ls (.long v :: .ref (q 0) :: rest)) :=
  va_put (D := D) (ci := 5) (v := .long v) (ty := .long) (C := RX5) (T := TX5) (N := 27)  X.1.1 X.1.2.1 X.1.2.2.2.2 inX5 tyX5 tyX5_ok nmX5 X.1.2.2.2.1 X.2 hP hD hS 0 rfl rfl 14 (by decide) (X.1.2.2.2.2 _ wd_483) (fun _ h => h) rfl (by decide +kernel) rfl rfl (Nat.le_of_ble_eq_true rfl) hdg (fun H1 locs1 hP1 hD1 hS1 => kk H1 locs1 hP1 hD1 hS1)
theorem pf_X5_67 {p : Program} {l : Launch} {e : Env} {R : Room} {s : State} {m : MethodId} {args : Array Value} {below : List Frame} {meth : Method} {c : Code} {H H0 : Heap} {locs : List Loc} {cells slots : Nat} {Q : State → Prop} {cc : ByteArray} {pc nL : Nat} {ls : Array Slot} {rest : List Value} {D : va_G} {A : Nat → Prop} {q : Nat → Nat} {ca : Nat → ClassId} {sz mo : Int32} {E : MS} (X : Cx p m c cc nL s args RX5 D (tysM ca)) (hP : va_P D vwCl (cwM q ca sz mo E) H) (hD : va_D A (cwM q ca sz mo E)) (hS : va_S A H0 H locs) (v : Int32) (hdg : decode cc pc = .ok (.putfield 67, 3)) (kk : ∀ (H1 : Heap) (locs1 : List Loc), va_P D vwCl (cwM q ca sz mo (msentMany_ E v)) H1 → va_D A (cwM q ca sz mo (msentMany_ E v)) → va_S A H0 H1 locs1 → W p l e R s m args below meth c H1 locs1 cells slots Q (F0 m (pc + 3) ls rest)) : W p l e R s m args below meth c H locs cells slots Q (F0 m pc ls (.int v :: .ref (q 0) :: rest)) :=
  va_put (D := D) (ci := 5) (v := .int v) (ty := .int) (C := RX5) (T := TX5) (N := 27)  X.1.1 X.1.2.1 X.1.2.2.2.2 inX5 tyX5 tyX5_ok nmX5 X.1.2.2.2.1 X.2 hP hD hS 0 rfl rfl 16 (by decide) (X.1.2.2.2.2 _ wd_485) (fun _ h => h) rfl (by decide +kernel) rfl rfl (Nat.le_of_ble_eq_true rfl) hdg (fun H1 locs1 hP1 hD1 hS1 => kk H1 locs1 hP1 hD1 hS1)
theorem pf_X5_73 {p : Program} {l : Launch} {e : Env} {R : Room} {s : State} {m : MethodId} {args : Array Value} {below : List Frame} {meth : Method} {c : Code} {H H0 : Heap} {locs : List Loc} {cells slots : Nat} {Q : State → Prop} {cc : ByteArray} {pc nL : Nat} {ls : Array Slot} {rest : List Value} {D : va_G} {A : Nat → Prop} {q : Nat → Nat} {ca : Nat → ClassId} {sz mo : Int32} {E : MS} (X : Cx p m c cc nL s args RX5 D (tysM ca)) (hP : va_P D vwCl (cwM q ca sz mo E) H) (hD : va_D A (cwM q ca sz mo E)) (hS : va_S A H0 H locs) (v : Bool) (hdg : decode cc pc = .ok (.putfield 73, 3)) (kk : ∀ (H1 : Heap) (locs1 : List Loc), va_P D vwCl (cwM q ca sz mo (mwaits_ E v)) H1 → va_D A (cwM q ca sz mo (mwaits_ E v)) → va_S A H0 H1 locs1 → W p l e R s m args below meth c H1 locs1 cells slots Q (F0 m (pc + 3) ls rest)) : W p l e R s m args below meth c H locs cells slots Q (F0 m pc ls (.int (b2i v) :: .ref (q 0) :: rest)) :=
  va_put (D := D) (ci := 5) (v := .int (b2i v)) (ty := .boolean) (C := RX5) (T := TX5) (N := 27)  X.1.1 X.1.2.1 X.1.2.2.2.2 inX5 tyX5 tyX5_ok nmX5 X.1.2.2.2.1 X.2 hP hD hS 0 rfl rfl 18 (by decide) (X.1.2.2.2.2 _ wd_487) (fun _ h => h) rfl (by decide +kernel) (b2i_nar v) (b2i_fit v) (Nat.le_of_ble_eq_true rfl) hdg (fun H1 locs1 hP1 hD1 hS1 => kk H1 locs1 hP1 hD1 hS1)
theorem pf_X5_118 {p : Program} {l : Launch} {e : Env} {R : Room} {s : State} {m : MethodId} {args : Array Value} {below : List Frame} {meth : Method} {c : Code} {H H0 : Heap} {locs : List Loc} {cells slots : Nat} {Q : State → Prop} {cc : ByteArray} {pc nL : Nat} {ls : Array Slot} {rest : List Value} {D : va_G} {A : Nat → Prop} {q : Nat → Nat} {ca : Nat → ClassId} {sz mo : Int32} {E : MS} (X : Cx p m c cc nL s args RX5 D (tysM ca)) (hP : va_P D vwCl (cwM q ca sz mo E) H) (hD : va_D A (cwM q ca sz mo E)) (hS : va_S A H0 H locs) (v : Int32) (hdg : decode cc pc = .ok (.putfield 118, 3)) (kk : ∀ (H1 : Heap) (locs1 : List Loc), va_P D vwCl (cwM q ca sz mo (mword_ E v)) H1 → va_D A (cwM q ca sz mo (mword_ E v)) → va_S A H0 H1 locs1 → W p l e R s m args below meth c H1 locs1 cells slots Q (F0 m (pc + 3) ls rest)) : W p l e R s m args below meth c H locs cells slots Q (F0 m pc ls (.int v :: .ref (q 0) :: rest)) :=
  va_put (D := D) (ci := 5) (v := .int v) (ty := .int) (C := RX5) (T := TX5) (N := 27)  X.1.1 X.1.2.1 X.1.2.2.2.2 inX5 tyX5 tyX5_ok nmX5 X.1.2.2.2.1 X.2 hP hD hS 0 rfl rfl 20 (by decide) (X.1.2.2.2.2 _ wd_489) (fun _ h => h) rfl (by decide +kernel) rfl rfl (Nat.le_of_ble_eq_true rfl) hdg (fun H1 locs1 hP1 hD1 hS1 => kk H1 locs1 hP1 hD1 hS1)
theorem pf_X5_124 {p : Program} {l : Launch} {e : Env} {R : Room} {s : State} {m : MethodId} {args : Array Value} {below : List Frame} {meth : Method} {c : Code} {H H0 : Heap} {locs : List Loc} {cells slots : Nat} {Q : State → Prop} {cc : ByteArray} {pc nL : Nat} {ls : Array Slot} {rest : List Value} {D : va_G} {A : Nat → Prop} {q : Nat → Nat} {ca : Nat → ClassId} {sz mo : Int32} {E : MS} (X : Cx p m c cc nL s args RX5 D (tysM ca)) (hP : va_P D vwCl (cwM q ca sz mo E) H) (hD : va_D A (cwM q ca sz mo E)) (hS : va_S A H0 H locs) (v : Int32) (hdg : decode cc pc = .ok (.putfield 124, 3)) (kk : ∀ (H1 : Heap) (locs1 : List Loc), va_P D vwCl (cwM q ca sz mo (md_ E v)) H1 → va_D A (cwM q ca sz mo (md_ E v)) → va_S A H0 H1 locs1 → W p l e R s m args below meth c H1 locs1 cells slots Q (F0 m (pc + 3) ls rest)) : W p l e R s m args below meth c H locs cells slots Q (F0 m pc ls (.int v :: .ref (q 0) :: rest)) :=
  va_put (D := D) (ci := 5) (v := .int v) (ty := .int) (C := RX5) (T := TX5) (N := 27)  X.1.1 X.1.2.1 X.1.2.2.2.2 inX5 tyX5 tyX5_ok nmX5 X.1.2.2.2.1 X.2 hP hD hS 0 rfl rfl 21 (by decide) (X.1.2.2.2.2 _ wd_490) (fun _ h => h) rfl (by decide +kernel) rfl rfl (Nat.le_of_ble_eq_true rfl) hdg (fun H1 locs1 hP1 hD1 hS1 => kk H1 locs1 hP1 hD1 hS1)
theorem pf_X5_127 {p : Program} {l : Launch} {e : Env} {R : Room} {s : State} {m : MethodId} {args : Array Value} {below : List Frame} {meth : Method} {c : Code} {H H0 : Heap} {locs : List Loc} {cells slots : Nat} {Q : State → Prop} {cc : ByteArray} {pc nL : Nat} {ls : Array Slot} {rest : List Value} {D : va_G} {A : Nat → Prop} {q : Nat → Nat} {ca : Nat → ClassId} {sz mo : Int32} {E : MS} (X : Cx p m c cc nL s args RX5 D (tysM ca)) (hP : va_P D vwCl (cwM q ca sz mo E) H) (hD : va_D A (cwM q ca sz mo E)) (hS : va_S A H0 H locs) (v : Int32) (hdg : decode cc pc = .ok (.putfield 127, 3)) (kk : ∀ (H1 : Heap) (locs1 : List Loc), va_P D vwCl (cwM q ca sz mo (mf_ E v)) H1 → va_D A (cwM q ca sz mo (mf_ E v)) → va_S A H0 H1 locs1 → W p l e R s m args below meth c H1 locs1 cells slots Q (F0 m (pc + 3) ls rest)) : W p l e R s m args below meth c H locs cells slots Q (F0 m pc ls (.int v :: .ref (q 0) :: rest)) :=
  va_put (D := D) (ci := 5) (v := .int v) (ty := .int) (C := RX5) (T := TX5) (N := 27)  X.1.1 X.1.2.1 X.1.2.2.2.2 inX5 tyX5 tyX5_ok nmX5 X.1.2.2.2.1 X.2 hP hD hS 0 rfl rfl 22 (by decide) (X.1.2.2.2.2 _ wd_491) (fun _ h => h) rfl (by decide +kernel) rfl rfl (Nat.le_of_ble_eq_true rfl) hdg (fun H1 locs1 hP1 hD1 hS1 => kk H1 locs1 hP1 hD1 hS1)
theorem pf_X5_130 {p : Program} {l : Launch} {e : Env} {R : Room} {s : State} {m : MethodId} {args : Array Value} {below : List Frame} {meth : Method} {c : Code} {H H0 : Heap} {locs : List Loc} {cells slots : Nat} {Q : State → Prop} {cc : ByteArray} {pc nL : Nat} {ls : Array Slot} {rest : List Value} {D : va_G} {A : Nat → Prop} {q : Nat → Nat} {ca : Nat → ClassId} {sz mo : Int32} {E : MS} (X : Cx p m c cc nL s args RX5 D (tysM ca)) (hP : va_P D vwCl (cwM q ca sz mo E) H) (hD : va_D A (cwM q ca sz mo E)) (hS : va_S A H0 H locs) (v : Int32) (hdg : decode cc pc = .ok (.putfield 130, 3)) (kk : ∀ (H1 : Heap) (locs1 : List Loc), va_P D vwCl (cwM q ca sz mo (ms_ E v)) H1 → va_D A (cwM q ca sz mo (ms_ E v)) → va_S A H0 H1 locs1 → W p l e R s m args below meth c H1 locs1 cells slots Q (F0 m (pc + 3) ls rest)) : W p l e R s m args below meth c H locs cells slots Q (F0 m pc ls (.int v :: .ref (q 0) :: rest)) :=
  va_put (D := D) (ci := 5) (v := .int v) (ty := .int) (C := RX5) (T := TX5) (N := 27)  X.1.1 X.1.2.1 X.1.2.2.2.2 inX5 tyX5 tyX5_ok nmX5 X.1.2.2.2.1 X.2 hP hD hS 0 rfl rfl 23 (by decide) (X.1.2.2.2.2 _ wd_492) (fun _ h => h) rfl (by decide +kernel) rfl rfl (Nat.le_of_ble_eq_true rfl) hdg (fun H1 locs1 hP1 hD1 hS1 => kk H1 locs1 hP1 hD1 hS1)
theorem pf_X5_133 {p : Program} {l : Launch} {e : Env} {R : Room} {s : State} {m : MethodId} {args : Array Value} {below : List Frame} {meth : Method} {c : Code} {H H0 : Heap} {locs : List Loc} {cells slots : Nat} {Q : State → Prop} {cc : ByteArray} {pc nL : Nat} {ls : Array Slot} {rest : List Value} {D : va_G} {A : Nat → Prop} {q : Nat → Nat} {ca : Nat → ClassId} {sz mo : Int32} {E : MS} (X : Cx p m c cc nL s args RX5 D (tysM ca)) (hP : va_P D vwCl (cwM q ca sz mo E) H) (hD : va_D A (cwM q ca sz mo E)) (hS : va_S A H0 H locs) (v : Int32) (hdg : decode cc pc = .ok (.putfield 133, 3)) (kk : ∀ (H1 : Heap) (locs1 : List Loc), va_P D vwCl (cwM q ca sz mo (mt_ E v)) H1 → va_D A (cwM q ca sz mo (mt_ E v)) → va_S A H0 H1 locs1 → W p l e R s m args below meth c H1 locs1 cells slots Q (F0 m (pc + 3) ls rest)) : W p l e R s m args below meth c H locs cells slots Q (F0 m pc ls (.int v :: .ref (q 0) :: rest)) :=
  va_put (D := D) (ci := 5) (v := .int v) (ty := .int) (C := RX5) (T := TX5) (N := 27)  X.1.1 X.1.2.1 X.1.2.2.2.2 inX5 tyX5 tyX5_ok nmX5 X.1.2.2.2.1 X.2 hP hD hS 0 rfl rfl 24 (by decide) (X.1.2.2.2.2 _ wd_493) (fun _ h => h) rfl (by decide +kernel) rfl rfl (Nat.le_of_ble_eq_true rfl) hdg (fun H1 locs1 hP1 hD1 hS1 => kk H1 locs1 hP1 hD1 hS1)
theorem pf_X5_136 {p : Program} {l : Launch} {e : Env} {R : Room} {s : State} {m : MethodId} {args : Array Value} {below : List Frame} {meth : Method} {c : Code} {H H0 : Heap} {locs : List Loc} {cells slots : Nat} {Q : State → Prop} {cc : ByteArray} {pc nL : Nat} {ls : Array Slot} {rest : List Value} {D : va_G} {A : Nat → Prop} {q : Nat → Nat} {ca : Nat → ClassId} {sz mo : Int32} {E : MS} (X : Cx p m c cc nL s args RX5 D (tysM ca)) (hP : va_P D vwCl (cwM q ca sz mo E) H) (hD : va_D A (cwM q ca sz mo E)) (hS : va_S A H0 H locs) (v : Int32) (hdg : decode cc pc = .ok (.putfield 136, 3)) (kk : ∀ (H1 : Heap) (locs1 : List Loc), va_P D vwCl (cwM q ca sz mo (mg_ E v)) H1 → va_D A (cwM q ca sz mo (mg_ E v)) → va_S A H0 H1 locs1 → W p l e R s m args below meth c H1 locs1 cells slots Q (F0 m (pc + 3) ls rest)) : W p l e R s m args below meth c H locs cells slots Q (F0 m pc ls (.int v :: .ref (q 0) :: rest)) :=
  va_put (D := D) (ci := 5) (v := .int v) (ty := .int) (C := RX5) (T := TX5) (N := 27)  X.1.1 X.1.2.1 X.1.2.2.2.2 inX5 tyX5 tyX5_ok nmX5 X.1.2.2.2.1 X.2 hP hD hS 0 rfl rfl 25 (by decide) (X.1.2.2.2.2 _ wd_494) (fun _ h => h) rfl (by decide +kernel) rfl rfl (Nat.le_of_ble_eq_true rfl) hdg (fun H1 locs1 hP1 hD1 hS1 => kk H1 locs1 hP1 hD1 hS1)
theorem gf_X5_139 {p : Program} {l : Launch} {e : Env} {R : Room} {s : State} {m : MethodId} {args : Array Value} {below : List Frame} {meth : Method} {c : Code} {H : Heap} {locs : List Loc} {cells slots : Nat} {Q : State → Prop} {cc : ByteArray} {pc nL : Nat} {ls : Array Slot} {rest : List Value} {D : va_G} {q : Nat → Nat} {ca : Nat → ClassId} {sz mo : Int32} {E : MS} (X : Cx p m c cc nL s args RX5 D (tysM ca)) (hP : va_P D vwCl (cwM q ca sz mo E) H) (hdg : decode cc pc = .ok (.getfield 139, 3)) (kk : W p l e R s m args below meth c H locs cells slots Q (F0 m (pc + 3) ls (.int (mnext E) :: rest))) : W p l e R s m args below meth c H locs cells slots Q (F0 m pc ls (.ref (q 0) :: rest)) :=
  va_get (D := D) (ci := 5)  (C := RX5) (T := TX5) (N := 27)  X.1.1 X.1.2.1 X.1.2.2.2.2 inX5 X.1.2.2.2.1 X.2 hP 0 rfl rfl 26 (by decide) (X.1.2.2.2.2 _ wd_495) (fun _ h => h) rfl hdg kk
theorem gf_X5_73 {p : Program} {l : Launch} {e : Env} {R : Room} {s : State} {m : MethodId} {args : Array Value} {below : List Frame} {meth : Method} {c : Code} {H : Heap} {locs : List Loc} {cells slots : Nat} {Q : State → Prop} {cc : ByteArray} {pc nL : Nat} {ls : Array Slot} {rest : List Value} {D : va_G} {q : Nat → Nat} {ca : Nat → ClassId} {sz mo : Int32} {E : MS} (X : Cx p m c cc nL s args RX5 D (tysM ca)) (hP : va_P D vwCl (cwM q ca sz mo E) H) (hdg : decode cc pc = .ok (.getfield 73, 3)) (kk : W p l e R s m args below meth c H locs cells slots Q (F0 m (pc + 3) ls (.int (b2i (mwaits E)) :: rest))) : W p l e R s m args below meth c H locs cells slots Q (F0 m pc ls (.ref (q 0) :: rest)) :=
  va_get (D := D) (ci := 5)  (C := RX5) (T := TX5) (N := 27)  X.1.1 X.1.2.1 X.1.2.2.2.2 inX5 X.1.2.2.2.1 X.2 hP 0 rfl rfl 18 (by decide) (X.1.2.2.2.2 _ wd_487) (fun _ h => h) rfl hdg kk
theorem pf_X5_76 {p : Program} {l : Launch} {e : Env} {R : Room} {s : State} {m : MethodId} {args : Array Value} {below : List Frame} {meth : Method} {c : Code} {H H0 : Heap} {locs : List Loc} {cells slots : Nat} {Q : State → Prop} {cc : ByteArray} {pc nL : Nat} {ls : Array Slot} {rest : List Value} {D : va_G} {A : Nat → Prop} {q : Nat → Nat} {ca : Nat → ClassId} {sz mo : Int32} {E : MS} (X : Cx p m c cc nL s args RX5 D (tysM ca)) (hP : va_P D vwCl (cwM q ca sz mo E) H) (hD : va_D A (cwM q ca sz mo E)) (hS : va_S A H0 H locs) (v : Int32) (hdg : decode cc pc = .ok (.putfield 76, 3)) (kk : ∀ (H1 : Heap) (locs1 : List Loc), va_P D vwCl (cwM q ca sz mo (mlatest_ E v)) H1 → va_D A (cwM q ca sz mo (mlatest_ E v)) → va_S A H0 H1 locs1 → W p l e R s m args below meth c H1 locs1 cells slots Q (F0 m (pc + 3) ls rest)) : W p l e R s m args below meth c H locs cells slots Q (F0 m pc ls (.int v :: .ref (q 0) :: rest)) :=
  va_put (D := D) (ci := 5) (v := .int v) (ty := .int) (C := RX5) (T := TX5) (N := 27)  X.1.1 X.1.2.1 X.1.2.2.2.2 inX5 tyX5 tyX5_ok nmX5 X.1.2.2.2.1 X.2 hP hD hS 0 rfl rfl 19 (by decide) (X.1.2.2.2.2 _ wd_488) (fun _ h => h) rfl (by decide +kernel) rfl rfl (Nat.le_of_ble_eq_true rfl) hdg (fun H1 locs1 hP1 hD1 hS1 => kk H1 locs1 hP1 hD1 hS1)
theorem gf_X5_76 {p : Program} {l : Launch} {e : Env} {R : Room} {s : State} {m : MethodId} {args : Array Value} {below : List Frame} {meth : Method} {c : Code} {H : Heap} {locs : List Loc} {cells slots : Nat} {Q : State → Prop} {cc : ByteArray} {pc nL : Nat} {ls : Array Slot} {rest : List Value} {D : va_G} {q : Nat → Nat} {ca : Nat → ClassId} {sz mo : Int32} {E : MS} (X : Cx p m c cc nL s args RX5 D (tysM ca)) (hP : va_P D vwCl (cwM q ca sz mo E) H) (hdg : decode cc pc = .ok (.getfield 76, 3)) (kk : W p l e R s m args below meth c H locs cells slots Q (F0 m (pc + 3) ls (.int (mlatest E) :: rest))) : W p l e R s m args below meth c H locs cells slots Q (F0 m pc ls (.ref (q 0) :: rest)) :=
  va_get (D := D) (ci := 5)  (C := RX5) (T := TX5) (N := 27)  X.1.1 X.1.2.1 X.1.2.2.2.2 inX5 X.1.2.2.2.1 X.2 hP 0 rfl rfl 19 (by decide) (X.1.2.2.2.2 _ wd_488) (fun _ h => h) rfl hdg kk
theorem gf_X5_70 {p : Program} {l : Launch} {e : Env} {R : Room} {s : State} {m : MethodId} {args : Array Value} {below : List Frame} {meth : Method} {c : Code} {H : Heap} {locs : List Loc} {cells slots : Nat} {Q : State → Prop} {cc : ByteArray} {pc nL : Nat} {ls : Array Slot} {rest : List Value} {D : va_G} {q : Nat → Nat} {ca : Nat → ClassId} {sz mo : Int32} {E : MS} (X : Cx p m c cc nL s args RX5 D (tysM ca)) (hP : va_P D vwCl (cwM q ca sz mo E) H) (hdg : decode cc pc = .ok (.getfield 70, 3)) (kk : W p l e R s m args below meth c H locs cells slots Q (F0 m (pc + 3) ls (.long (mretired E) :: rest))) : W p l e R s m args below meth c H locs cells slots Q (F0 m pc ls (.ref (q 0) :: rest)) :=
  va_get (D := D) (ci := 5)  (C := RX5) (T := TX5) (N := 27)  X.1.1 X.1.2.1 X.1.2.2.2.2 inX5 X.1.2.2.2.1 X.2 hP 0 rfl rfl 17 (by decide) (X.1.2.2.2.2 _ wd_486) (fun _ h => h) rfl hdg kk
theorem pf_X5_70 {p : Program} {l : Launch} {e : Env} {R : Room} {s : State} {m : MethodId} {args : Array Value} {below : List Frame} {meth : Method} {c : Code} {H H0 : Heap} {locs : List Loc} {cells slots : Nat} {Q : State → Prop} {cc : ByteArray} {pc nL : Nat} {ls : Array Slot} {rest : List Value} {D : va_G} {A : Nat → Prop} {q : Nat → Nat} {ca : Nat → ClassId} {sz mo : Int32} {E : MS} (X : Cx p m c cc nL s args RX5 D (tysM ca)) (hP : va_P D vwCl (cwM q ca sz mo E) H) (hD : va_D A (cwM q ca sz mo E)) (hS : va_S A H0 H locs) (v : Int64) (hdg : decode cc pc = .ok (.putfield 70, 3)) (kk : ∀ (H1 : Heap) (locs1 : List Loc), va_P D vwCl (cwM q ca sz mo (mretired_ E v)) H1 → va_D A (cwM q ca sz mo (mretired_ E v)) → va_S A H0 H1 locs1 → W p l e R s m args below meth c H1 locs1 cells slots Q (F0 m (pc + 3) ls rest)) : W p l e R s m args below meth c H locs cells slots Q (F0 m pc ls (.long v :: .ref (q 0) :: rest)) :=
  va_put (D := D) (ci := 5) (v := .long v) (ty := .long) (C := RX5) (T := TX5) (N := 27)  X.1.1 X.1.2.1 X.1.2.2.2.2 inX5 tyX5 tyX5_ok nmX5 X.1.2.2.2.1 X.2 hP hD hS 0 rfl rfl 17 (by decide) (X.1.2.2.2.2 _ wd_486) (fun _ h => h) rfl (by decide +kernel) rfl rfl (Nat.le_of_ble_eq_true rfl) hdg (fun H1 locs1 hP1 hD1 hS1 => kk H1 locs1 hP1 hD1 hS1)
theorem klen_2 {p : Program} {l : Launch} {e : Env} {R : Room} {s : State} {m : MethodId} {args : Array Value} {below : List Frame} {meth : Method} {c : Code} {H : Heap} {locs : List Loc} {cells slots : Nat} {Q : State → Prop} {cc : ByteArray} {pc nL : Nat} {ls : Array Slot} {rest : List Value} {D : va_G} {q : Nat → Nat} {ca : Nat → ClassId} {nW nB : Nat} {E : KS} {own : String} (X : Cx p m c cc nL s args own D (tysK ca)) (hP : va_P D vwCl (cwK q ca nW nB E) H) (hdg : decode cc pc = .ok (.arraylength, 1)) (kk : W p l e R s m args below meth c H locs cells slots Q (F0 m (pc + 1) ls (.int (nI nW) :: rest))) : W p l e R s m args below meth c H locs cells slots Q (F0 m pc ls (.ref (q 2) :: rest)) :=
  va_alen X.1.1 X.1.2.1 X.2 hP 2 0 rfl rfl rfl hdg kk
theorem kld_2 {p : Program} {l : Launch} {e : Env} {R : Room} {s : State} {m : MethodId} {args : Array Value} {below : List Frame} {meth : Method} {c : Code} {H : Heap} {locs : List Loc} {cells slots : Nat} {Q : State → Prop} {cc : ByteArray} {pc nL : Nat} {ls : Array Slot} {rest : List Value} {D : va_G} {q : Nat → Nat} {ca : Nat → ClassId} {nW nB : Nat} {E : KS} {own : String} (X : Cx p m c cc nL s args own D (tysK ca)) (hP : va_P D vwCl (cwK q ca nW nB E) H) {i : Int32} (hin : vp_in i nW) (hdg : decode cc pc = .ok (.iaload, 1)) (kk : W p l e R s m args below meth c H locs cells slots Q (F0 m (pc + 1) ls (.int (kwords E i.toNatClampNeg) :: rest))) : W p l e R s m args below meth c H locs cells slots Q (F0 m pc ls (.int i :: .ref (q 2) :: rest)) :=
  va_iald X.1.1 X.1.2.1 X.2 hP 2 0 rfl rfl hin hdg kk
theorem kst_2 {p : Program} {l : Launch} {e : Env} {R : Room} {s : State} {m : MethodId} {args : Array Value} {below : List Frame} {meth : Method} {c : Code} {H H0 : Heap} {locs : List Loc} {cells slots : Nat} {Q : State → Prop} {cc : ByteArray} {pc nL : Nat} {ls : Array Slot} {rest : List Value} {D : va_G} {A : Nat → Prop} {q : Nat → Nat} {ca : Nat → ClassId} {nW nB : Nat} {E : KS} {own : String} (X : Cx p m c cc nL s args own D (tysK ca)) (hP : va_P D vwCl (cwK q ca nW nB E) H) (hD : va_D A (cwK q ca nW nB E)) (hS : va_S A H0 H locs) {i v : Int32} (hin : vp_in i nW) (hdg : decode cc pc = .ok (.iastore, 1)) (kk : ∀ (H1 : Heap) (locs1 : List Loc), va_P D vwCl (cwK q ca nW nB (kwords_ E (upd (kwords E) i.toNatClampNeg v))) H1 → va_D A (cwK q ca nW nB (kwords_ E (upd (kwords E) i.toNatClampNeg v))) → va_S A H0 H1 locs1 → W p l e R s m args below meth c H1 locs1 cells slots Q (F0 m (pc + 1) ls rest)) : W p l e R s m args below meth c H locs cells slots Q (F0 m pc ls (.int v :: .int i :: .ref (q 2) :: rest)) :=
  va_iast X.1.1 X.1.2.1 X.2 hP hD hS 2 0 rfl rfl hin hdg (fun H1 locs1 hP1 hD1 hS1 => kk H1 locs1 hP1 hD1 hS1)
theorem klen_5 {p : Program} {l : Launch} {e : Env} {R : Room} {s : State} {m : MethodId} {args : Array Value} {below : List Frame} {meth : Method} {c : Code} {H : Heap} {locs : List Loc} {cells slots : Nat} {Q : State → Prop} {cc : ByteArray} {pc nL : Nat} {ls : Array Slot} {rest : List Value} {D : va_G} {q : Nat → Nat} {ca : Nat → ClassId} {nW nB : Nat} {E : KS} {own : String} (X : Cx p m c cc nL s args own D (tysK ca)) (hP : va_P D vwCl (cwK q ca nW nB E) H) (hdg : decode cc pc = .ok (.arraylength, 1)) (kk : W p l e R s m args below meth c H locs cells slots Q (F0 m (pc + 1) ls (.int (nI nB) :: rest))) : W p l e R s m args below meth c H locs cells slots Q (F0 m pc ls (.ref (q 5) :: rest)) :=
  va_alen X.1.1 X.1.2.1 X.2 hP 5 1 rfl rfl rfl hdg kk
theorem kld_5 {p : Program} {l : Launch} {e : Env} {R : Room} {s : State} {m : MethodId} {args : Array Value} {below : List Frame} {meth : Method} {c : Code} {H : Heap} {locs : List Loc} {cells slots : Nat} {Q : State → Prop} {cc : ByteArray} {pc nL : Nat} {ls : Array Slot} {rest : List Value} {D : va_G} {q : Nat → Nat} {ca : Nat → ClassId} {nW nB : Nat} {E : KS} {own : String} (X : Cx p m c cc nL s args own D (tysK ca)) (hP : va_P D vwCl (cwK q ca nW nB E) H) {i : Int32} (hin : vp_in i nB) (hdg : decode cc pc = .ok (.baload, 1)) (kk : W p l e R s m args below meth c H locs cells slots Q (F0 m (pc + 1) ls (.int (kbytes E i.toNatClampNeg) :: rest))) : W p l e R s m args below meth c H locs cells slots Q (F0 m pc ls (.int i :: .ref (q 5) :: rest)) :=
  va_bald X.1.1 X.1.2.1 X.2 hP 5 1 rfl rfl hin hdg kk
theorem kld_7 {p : Program} {l : Launch} {e : Env} {R : Room} {s : State} {m : MethodId} {args : Array Value} {below : List Frame} {meth : Method} {c : Code} {H : Heap} {locs : List Loc} {cells slots : Nat} {Q : State → Prop} {cc : ByteArray} {pc nL : Nat} {ls : Array Slot} {rest : List Value} {D : va_G} {q : Nat → Nat} {ca : Nat → ClassId} {nW nB : Nat} {E : KS} {own : String} (X : Cx p m c cc nL s args own D (tysK ca)) (hP : va_P D vwCl (cwK q ca nW nB E) H) {i : Int32} (hin : vp_in i 32) (hdg : decode cc pc = .ok (.iaload, 1)) (kk : W p l e R s m args below meth c H locs cells slots Q (F0 m (pc + 1) ls (.int (kx E i.toNatClampNeg) :: rest))) : W p l e R s m args below meth c H locs cells slots Q (F0 m pc ls (.int i :: .ref (q 7) :: rest)) :=
  va_iald X.1.1 X.1.2.1 X.2 hP 7 2 rfl rfl hin hdg kk
theorem kst_7 {p : Program} {l : Launch} {e : Env} {R : Room} {s : State} {m : MethodId} {args : Array Value} {below : List Frame} {meth : Method} {c : Code} {H H0 : Heap} {locs : List Loc} {cells slots : Nat} {Q : State → Prop} {cc : ByteArray} {pc nL : Nat} {ls : Array Slot} {rest : List Value} {D : va_G} {A : Nat → Prop} {q : Nat → Nat} {ca : Nat → ClassId} {nW nB : Nat} {E : KS} {own : String} (X : Cx p m c cc nL s args own D (tysK ca)) (hP : va_P D vwCl (cwK q ca nW nB E) H) (hD : va_D A (cwK q ca nW nB E)) (hS : va_S A H0 H locs) {i v : Int32} (hin : vp_in i 32) (hdg : decode cc pc = .ok (.iastore, 1)) (kk : ∀ (H1 : Heap) (locs1 : List Loc), va_P D vwCl (cwK q ca nW nB (kx_ E (upd (kx E) i.toNatClampNeg v))) H1 → va_D A (cwK q ca nW nB (kx_ E (upd (kx E) i.toNatClampNeg v))) → va_S A H0 H1 locs1 → W p l e R s m args below meth c H1 locs1 cells slots Q (F0 m (pc + 1) ls rest)) : W p l e R s m args below meth c H locs cells slots Q (F0 m pc ls (.int v :: .int i :: .ref (q 7) :: rest)) :=
  va_iast X.1.1 X.1.2.1 X.2 hP hD hS 7 2 rfl rfl hin hdg (fun H1 locs1 hP1 hD1 hS1 => kk H1 locs1 hP1 hD1 hS1)
theorem kst_5 {p : Program} {l : Launch} {e : Env} {R : Room} {s : State} {m : MethodId} {args : Array Value} {below : List Frame} {meth : Method} {c : Code} {H H0 : Heap} {locs : List Loc} {cells slots : Nat} {Q : State → Prop} {cc : ByteArray} {pc nL : Nat} {ls : Array Slot} {rest : List Value} {D : va_G} {A : Nat → Prop} {q : Nat → Nat} {ca : Nat → ClassId} {nW nB : Nat} {E : KS} {own : String} (X : Cx p m c cc nL s args own D (tysK ca)) (hP : va_P D vwCl (cwK q ca nW nB E) H) (hD : va_D A (cwK q ca nW nB E)) (hS : va_S A H0 H locs) {i v : Int32} (hin : vp_in i nB) (hdg : decode cc pc = .ok (.bastore, 1)) (kk : ∀ (H1 : Heap) (locs1 : List Loc), va_P D vwCl (cwK q ca nW nB (kbytes_ E (upd (kbytes E) i.toNatClampNeg (vp_nar .byte v)))) H1 → va_D A (cwK q ca nW nB (kbytes_ E (upd (kbytes E) i.toNatClampNeg (vp_nar .byte v)))) → va_S A H0 H1 locs1 → W p l e R s m args below meth c H1 locs1 cells slots Q (F0 m (pc + 1) ls rest)) : W p l e R s m args below meth c H locs cells slots Q (F0 m pc ls (.int v :: .int i :: .ref (q 5) :: rest)) :=
  va_bast X.1.1 X.1.2.1 X.2 hP hD hS 5 1 rfl rfl hin hdg (fun H1 locs1 hP1 hD1 hS1 => kk H1 locs1 hP1 hD1 hS1)
theorem mst_1 {p : Program} {l : Launch} {e : Env} {R : Room} {s : State} {m : MethodId} {args : Array Value} {below : List Frame} {meth : Method} {c : Code} {H H0 : Heap} {locs : List Loc} {cells slots : Nat} {Q : State → Prop} {cc : ByteArray} {pc nL : Nat} {ls : Array Slot} {rest : List Value} {D : va_G} {A : Nat → Prop} {q : Nat → Nat} {ca : Nat → ClassId} {sz mo : Int32} {E : MS} {own : String} (X : Cx p m c cc nL s args own D (tysM ca)) (hP : va_P D vwCl (cwM q ca sz mo E) H) (hD : va_D A (cwM q ca sz mo E)) (hS : va_S A H0 H locs) {i v : Int32} (hin : vp_in i 65536) (hdg : decode cc pc = .ok (.iastore, 1)) (kk : ∀ (H1 : Heap) (locs1 : List Loc), va_P D vwCl (cwM q ca sz mo (mmemory_ E (upd (mmemory E) i.toNatClampNeg v))) H1 → va_D A (cwM q ca sz mo (mmemory_ E (upd (mmemory E) i.toNatClampNeg v))) → va_S A H0 H1 locs1 → W p l e R s m args below meth c H1 locs1 cells slots Q (F0 m (pc + 1) ls rest)) : W p l e R s m args below meth c H locs cells slots Q (F0 m pc ls (.int v :: .int i :: .ref (q 1) :: rest)) :=
  va_iast X.1.1 X.1.2.1 X.2 hP hD hS 1 0 rfl rfl hin hdg (fun H1 locs1 hP1 hD1 hS1 => kk H1 locs1 hP1 hD1 hS1)
theorem mld_3 {p : Program} {l : Launch} {e : Env} {R : Room} {s : State} {m : MethodId} {args : Array Value} {below : List Frame} {meth : Method} {c : Code} {H : Heap} {locs : List Loc} {cells slots : Nat} {Q : State → Prop} {cc : ByteArray} {pc nL : Nat} {ls : Array Slot} {rest : List Value} {D : va_G} {q : Nat → Nat} {ca : Nat → ClassId} {sz mo : Int32} {E : MS} {own : String} (X : Cx p m c cc nL s args own D (tysM ca)) (hP : va_P D vwCl (cwM q ca sz mo E) H) {i : Int32} (hin : vp_in i 4096) (hdg : decode cc pc = .ok (.iaload, 1)) (kk : W p l e R s m args below meth c H locs cells slots Q (F0 m (pc + 1) ls (.int (msent E i.toNatClampNeg) :: rest))) : W p l e R s m args below meth c H locs cells slots Q (F0 m pc ls (.int i :: .ref (q 3) :: rest)) :=
  va_iald X.1.1 X.1.2.1 X.2 hP 3 2 rfl rfl hin hdg kk
theorem mld_1 {p : Program} {l : Launch} {e : Env} {R : Room} {s : State} {m : MethodId} {args : Array Value} {below : List Frame} {meth : Method} {c : Code} {H : Heap} {locs : List Loc} {cells slots : Nat} {Q : State → Prop} {cc : ByteArray} {pc nL : Nat} {ls : Array Slot} {rest : List Value} {D : va_G} {q : Nat → Nat} {ca : Nat → ClassId} {sz mo : Int32} {E : MS} {own : String} (X : Cx p m c cc nL s args own D (tysM ca)) (hP : va_P D vwCl (cwM q ca sz mo E) H) {i : Int32} (hin : vp_in i 65536) (hdg : decode cc pc = .ok (.iaload, 1)) (kk : W p l e R s m args below meth c H locs cells slots Q (F0 m (pc + 1) ls (.int (mmemory E i.toNatClampNeg) :: rest))) : W p l e R s m args below meth c H locs cells slots Q (F0 m pc ls (.int i :: .ref (q 1) :: rest)) :=
  va_iald X.1.1 X.1.2.1 X.2 hP 1 0 rfl rfl hin hdg kk
theorem mld_2 {p : Program} {l : Launch} {e : Env} {R : Room} {s : State} {m : MethodId} {args : Array Value} {below : List Frame} {meth : Method} {c : Code} {H : Heap} {locs : List Loc} {cells slots : Nat} {Q : State → Prop} {cc : ByteArray} {pc nL : Nat} {ls : Array Slot} {rest : List Value} {D : va_G} {q : Nat → Nat} {ca : Nat → ClassId} {sz mo : Int32} {E : MS} {own : String} (X : Cx p m c cc nL s args own D (tysM ca)) (hP : va_P D vwCl (cwM q ca sz mo E) H) {i : Int32} (hin : vp_in i 32) (hdg : decode cc pc = .ok (.iaload, 1)) (kk : W p l e R s m args below meth c H locs cells slots Q (F0 m (pc + 1) ls (.int (mx E i.toNatClampNeg) :: rest))) : W p l e R s m args below meth c H locs cells slots Q (F0 m pc ls (.int i :: .ref (q 2) :: rest)) :=
  va_iald X.1.1 X.1.2.1 X.2 hP 2 1 rfl rfl hin hdg kk
theorem mst_2 {p : Program} {l : Launch} {e : Env} {R : Room} {s : State} {m : MethodId} {args : Array Value} {below : List Frame} {meth : Method} {c : Code} {H H0 : Heap} {locs : List Loc} {cells slots : Nat} {Q : State → Prop} {cc : ByteArray} {pc nL : Nat} {ls : Array Slot} {rest : List Value} {D : va_G} {A : Nat → Prop} {q : Nat → Nat} {ca : Nat → ClassId} {sz mo : Int32} {E : MS} {own : String} (X : Cx p m c cc nL s args own D (tysM ca)) (hP : va_P D vwCl (cwM q ca sz mo E) H) (hD : va_D A (cwM q ca sz mo E)) (hS : va_S A H0 H locs) {i v : Int32} (hin : vp_in i 32) (hdg : decode cc pc = .ok (.iastore, 1)) (kk : ∀ (H1 : Heap) (locs1 : List Loc), va_P D vwCl (cwM q ca sz mo (mx_ E (upd (mx E) i.toNatClampNeg v))) H1 → va_D A (cwM q ca sz mo (mx_ E (upd (mx E) i.toNatClampNeg v))) → va_S A H0 H1 locs1 → W p l e R s m args below meth c H1 locs1 cells slots Q (F0 m (pc + 1) ls rest)) : W p l e R s m args below meth c H locs cells slots Q (F0 m pc ls (.int v :: .int i :: .ref (q 2) :: rest)) :=
  va_iast X.1.1 X.1.2.1 X.2 hP hD hS 2 1 rfl rfl hin hdg (fun H1 locs1 hP1 hD1 hS1 => kk H1 locs1 hP1 hD1 hS1)
theorem mst_3 {p : Program} {l : Launch} {e : Env} {R : Room} {s : State} {m : MethodId} {args : Array Value} {below : List Frame} {meth : Method} {c : Code} {H H0 : Heap} {locs : List Loc} {cells slots : Nat} {Q : State → Prop} {cc : ByteArray} {pc nL : Nat} {ls : Array Slot} {rest : List Value} {D : va_G} {A : Nat → Prop} {q : Nat → Nat} {ca : Nat → ClassId} {sz mo : Int32} {E : MS} {own : String} (X : Cx p m c cc nL s args own D (tysM ca)) (hP : va_P D vwCl (cwM q ca sz mo E) H) (hD : va_D A (cwM q ca sz mo E)) (hS : va_S A H0 H locs) {i v : Int32} (hin : vp_in i 4096) (hdg : decode cc pc = .ok (.iastore, 1)) (kk : ∀ (H1 : Heap) (locs1 : List Loc), va_P D vwCl (cwM q ca sz mo (msent_ E (upd (msent E) i.toNatClampNeg v))) H1 → va_D A (cwM q ca sz mo (msent_ E (upd (msent E) i.toNatClampNeg v))) → va_S A H0 H1 locs1 → W p l e R s m args below meth c H1 locs1 cells slots Q (F0 m (pc + 1) ls rest)) : W p l e R s m args below meth c H locs cells slots Q (F0 m pc ls (.int v :: .int i :: .ref (q 3) :: rest)) :=
  va_iast X.1.1 X.1.2.1 X.2 hP hD hS 3 2 rfl rfl hin hdg (fun H1 locs1 hP1 hD1 hS1 => kk H1 locs1 hP1 hD1 hS1)
end
section
/-! what each method answers and does, as a function (read off its bytecode) -/
def f_J13_compare_74951 (a1 : Int64) (a2 : Int64) : Int32 :=
  (if 0 ≤ (lg_cmp a1 a2) then (if (lg_cmp a1 a2) = 0 then (0 : Int32) else (1 : Int32)) else (-1 : Int32))
def f_J13_compareUnsigned_74951 (a1 : Int64) (a2 : Int64) : Int32 :=
  (f_J13_compare_74951 (a1 + (-9223372036854775808 : Int64)) (a2 + (-9223372036854775808 : Int64)))
def f_J6_compare_7cf53 (a1 : Int32) (a2 : Int32) : Int32 :=
  (if a2 ≤ a1 then (if a1 = a2 then (0 : Int32) else (1 : Int32)) else (-1 : Int32))
def f_J6_compareUnsigned_7cf53 (a1 : Int32) (a2 : Int32) : Int32 :=
  (f_J6_compare_7cf53 (a1 + (-2147483648 : Int32)) (a2 + (-2147483648 : Int32)))
def f_X0_get (nW nB : Nat) (E : KS) (a1 : Int32) (a2 : Bool) : Int32 :=
  (if a1 = (768 : Int32) then (if (b2i (kon E)) = 0 then (if (b2i (kwas E)) = 0 then (((6144 : Int32) ||| (0 : Int32)) ||| (0 : Int32)) else (((6144 : Int32) ||| (0 : Int32)) ||| (128 : Int32))) else (if (b2i (kwas E)) = 0 then (((6144 : Int32) ||| (8 : Int32)) ||| (0 : Int32)) else (((6144 : Int32) ||| (8 : Int32)) ||| (128 : Int32)))) else (if a1 = (769 : Int32) then (1073746176 : Int32) else (if a1 = (772 : Int32) then (kenabled E) else (if a1 = (773 : Int32) then (kvector E) else (if a1 = (832 : Int32) then (kscratch E) else (if a1 = (833 : Int32) then (kback E) else (if a1 = (834 : Int32) then (kcause E) else (if a1 = (835 : Int32) then (kvalue E) else (if a1 = (836 : Int32) then (if (b2i a2) = 0 then (0 : Int32) else (128 : Int32)) else (0 : Int32))))))))))
def f_X0_lists (a1 : Int32) : Bool :=
  (if a1 = (768 : Int32) then true else (if a1 = (769 : Int32) then true else (if a1 = (772 : Int32) then true else (if a1 = (773 : Int32) then true else (if a1 = (832 : Int32) then true else (if a1 = (833 : Int32) then true else (if a1 = (834 : Int32) then true else (if a1 = (835 : Int32) then true else (if a1 = (836 : Int32) then true else (if a1 = (3860 : Int32) then true else false))))))))))
def f_X3_isDue (nW nB : Nat) (E : KS) : Bool :=
  (if (f_J13_compareUnsigned_74951 (ktime E) (klimit E)) < 0 then false else true)
def f_X4_csr (nW nB : Nat) (E : KS) (a1 : Int32) : Int32 :=
  (if (b2i (f_X0_lists a1)) = 0 then (0 : Int32) else (f_X0_get nW nB E a1 (f_X3_isDue nW nB E)))
def f_X0_restart (nW nB : Nat) (E : KS) : KS :=
  (kvalue_ (kcause_ (kback_ (kscratch_ (kvector_ (kenabled_ (kwas_ (kon_ E false) false) (0 : Int32)) (0 : Int32)) (0 : Int32)) (0 : Int32)) (0 : Int32)) (0 : Int32))
def f_X2_restart (nW nB : Nat) (E : KS) : KS :=
  (ksent_ E (0 : Int32))
def f_X3_restart (nW nB : Nat) (E : KS) : KS :=
  (klimit_ (ktime_ E (0 : Int64)) (-1 : Int64))
def f_X1_holds (nW nB : Nat) (E : KS) (a1 : Int32) : Bool :=
  (if a1 < 0 then false else (if (nI nW) ≤ (a1 >>> ((2 : Int32) &&& 31)) then false else true))
def f_X1_mask (a1 : Int32) : Int32 :=
  (jushr (-1 : Int32) ((32 : Int32) - ((8 : Int32) * a1)))
def f_X1_shift (a1 : Int32) : Int32 :=
  ((a1 &&& (3 : Int32)) * (8 : Int32))
def f_X1_put (nW nB : Nat) (E : KS) (a1 : Int32) (a2 : Int32) (a3 : Int32) : KS :=
  (kwords_ E (upd (kwords E) ((a1 >>> ((2 : Int32) &&& 31))).toNatClampNeg (((kwords E ((a1 >>> ((2 : Int32) &&& 31))).toNatClampNeg) &&& (((f_X1_mask a2) <<< ((f_X1_shift a1) &&& 31)) ^^^ (-1 : Int32))) ||| ((a3 <<< ((f_X1_shift a1) &&& 31)) &&& ((f_X1_mask a2) <<< ((f_X1_shift a1) &&& 31))))))
def f_X4_load (nW nB : Nat) (E : KS) (a1 : Int32) (a2 : Int32) : Bool × KS :=
  (if (b2i (f_X1_holds nW nB E a1)) = 0 then (false, E) else (if (b2i (f_X1_holds nW nB E (a1 + (3 : Int32)))) = 0 then (false, E) else (true, (f_X1_put nW nB (f_X1_put nW nB (f_X1_put nW nB (f_X1_put nW nB E (a1 + (0 : Int32)) (1 : Int32) (jushr a2 ((8 : Int32) * (0 : Int32)))) (a1 + (1 : Int32)) (1 : Int32) (jushr a2 ((8 : Int32) * (1 : Int32)))) (a1 + (2 : Int32)) (1 : Int32) (jushr a2 ((8 : Int32) * (2 : Int32)))) (a1 + (3 : Int32)) (1 : Int32) (jushr a2 ((8 : Int32) * (3 : Int32)))))))
def f_X2_byteAt (nW nB : Nat) (E : KS) (a1 : Int32) : Int32 :=
  (if a1 < 0 then (-1 : Int32) else (if (ksent E) ≤ a1 then (-1 : Int32) else (if (nI nB) ≤ a1 then (-1 : Int32) else ((kbytes E (a1).toNatClampNeg) &&& (255 : Int32)))))
def f_X4_out (nW nB : Nat) (E : KS) (a1 : Int32) : Int32 :=
  (f_X2_byteAt nW nB E a1)
def f_X4_outSize (nW nB : Nat) (E : KS) : Int32 :=
  (ksent E)
def f_X4_pc (nW nB : Nat) (E : KS) : Int32 :=
  (kplace E)
def f_X1_get (nW nB : Nat) (E : KS) (a1 : Int32) (a2 : Int32) : Int32 :=
  ((jushr (kwords E ((a1 >>> ((2 : Int32) &&& 31))).toNatClampNeg) (f_X1_shift a1)) &&& (f_X1_mask a2))
def f_X4_peek (nW nB : Nat) (E : KS) (a1 : Int32) : Int32 :=
  (if (b2i (f_X1_holds nW nB E a1)) = 0 then (-1 : Int32) else (f_X1_get nW nB E a1 (1 : Int32)))
def f_X4_poke (nW nB : Nat) (E : KS) (a1 : Int32) (a2 : Int32) : Bool × KS :=
  (if (b2i (f_X1_holds nW nB E a1)) = 0 then (false, E) else (true, (f_X1_put nW nB E a1 (1 : Int32) a2)))
def f_X4_reg (nW nB : Nat) (E : KS) (a1 : Int32) : Int32 :=
  (kx E ((a1 &&& (31 : Int32))).toNatClampNeg)
def f_X3_advance (nW nB : Nat) (E : KS) : KS :=
  (ktime_ E ((ktime E) + (1 : Int64)))
def f_X0_enter (nW nB : Nat) (E : KS) (a1 : Int32) (a2 : Int32) (a3 : Int32) : Int32 × KS :=
  (((kvector E) &&& (-4 : Int32)), (kon_ (kwas_ (kvalue_ (kcause_ (kback_ E a1) a2) a3) (kon E)) false))
def f_X0_hasOwnEntries (nW nB : Nat) (E : KS) : Bool :=
  (if ((kvector E) &&& (1 : Int32)) = 0 then false else true)
def f_X0_timerEnabled (nW nB : Nat) (E : KS) : Bool :=
  (if ((kenabled E) &&& (128 : Int32)) = 0 then false else true)
def f_X4_s (a1 : Int32) : Int32 :=
  ((jushr a1 (15 : Int32)) &&& (31 : Int32))
def f_X4_a (nW nB : Nat) (E : KS) (a1 : Int32) : Int32 :=
  (kx E ((f_X4_s a1)).toNatClampNeg)
def f_X4_b (nW nB : Nat) (E : KS) (a1 : Int32) : Int32 :=
  (kx E (((jushr a1 (20 : Int32)) &&& (31 : Int32))).toNatClampNeg)
def f_X4_belowUnsigned (a1 : Int32) (a2 : Int32) : Bool :=
  (if 0 ≤ (f_J6_compareUnsigned_7cf53 a1 a2) then false else true)
def f_X4_compares (a1 : Int32) (a2 : Int32) (a3 : Int32) : Bool :=
  (if a1 = (0 : Int32) then (if a2 = a3 then true else false) else (if a1 = (4 : Int32) then (if a3 ≤ a2 then false else true) else (f_X4_belowUnsigned a2 a3)))
def f_X4_f (a1 : Int32) : Int32 :=
  ((jushr a1 (12 : Int32)) &&& (7 : Int32))
def f_X4_trap (nW nB : Nat) (E : KS) (a1 : Int32) (a2 : Int32) : Int32 × KS :=
  ((1 : Int32), (kplace_ (f_X0_enter nW nB E (kplace E) a1 a2).2 (f_X0_enter nW nB E (kplace E) a1 a2).1))
def f_X4_illegal (nW nB : Nat) (E : KS) (a1 : Int32) : Int32 × KS :=
  (f_X4_trap nW nB E (2 : Int32) a1)
def f_X4_offsetB (a1 : Int32) : Int32 :=
  (((((a1 >>> ((31 : Int32) &&& 31)) <<< ((12 : Int32) &&& 31)) ||| (((jushr a1 (7 : Int32)) &&& (1 : Int32)) <<< ((11 : Int32) &&& 31))) ||| (((jushr a1 (25 : Int32)) &&& (63 : Int32)) <<< ((5 : Int32) &&& 31))) ||| (((jushr a1 (8 : Int32)) &&& (15 : Int32)) <<< ((1 : Int32) &&& 31)))
def f_X4_retireAt (nW nB : Nat) (E : KS) (a1 : Int32) : Int32 × KS :=
  ((0 : Int32), (kretired_ (kplace_ E a1) ((kretired E) + (1 : Int64))))
def f_X4_branch (nW nB : Nat) (E : KS) (a1 : Int32) : Int32 × KS :=
  (if (f_X4_f a1) = (2 : Int32) then (f_X4_illegal nW nB E a1) else (if (f_X4_f a1) = (3 : Int32) then (f_X4_illegal nW nB E a1) else (if ((f_X4_f a1) &&& (1 : Int32)) = (1 : Int32) then (if (b2i (f_X4_compares ((f_X4_f a1) &&& (6 : Int32)) (f_X4_a nW nB E a1) (f_X4_b nW nB E a1))) = (1 : Int32) then (if (((kplace E) + (4 : Int32)) &&& (3 : Int32)) = 0 then (f_X4_retireAt nW nB E ((kplace E) + (4 : Int32))) else (f_X4_trap nW nB E (0 : Int32) ((kplace E) + (4 : Int32)))) else (if (((kplace E) + (f_X4_offsetB a1)) &&& (3 : Int32)) = 0 then (f_X4_retireAt nW nB E ((kplace E) + (f_X4_offsetB a1))) else (f_X4_trap nW nB E (0 : Int32) ((kplace E) + (f_X4_offsetB a1))))) else (if (b2i (f_X4_compares ((f_X4_f a1) &&& (6 : Int32)) (f_X4_a nW nB E a1) (f_X4_b nW nB E a1))) = (0 : Int32) then (if (((kplace E) + (4 : Int32)) &&& (3 : Int32)) = 0 then (f_X4_retireAt nW nB E ((kplace E) + (4 : Int32))) else (f_X4_trap nW nB E (0 : Int32) ((kplace E) + (4 : Int32)))) else (if (((kplace E) + (f_X4_offsetB a1)) &&& (3 : Int32)) = 0 then (f_X4_retireAt nW nB E ((kplace E) + (f_X4_offsetB a1))) else (f_X4_trap nW nB E (0 : Int32) ((kplace E) + (f_X4_offsetB a1))))))))
def f_X0_set (nW nB : Nat) (E : KS) (a1 : Int32) (a2 : Int32) : KS :=
  (if a1 = (768 : Int32) then (if (a2 &&& (8 : Int32)) = 0 then (if (a2 &&& (128 : Int32)) = 0 then (kwas_ (kon_ E false) false) else (kwas_ (kon_ E false) true)) else (if (a2 &&& (128 : Int32)) = 0 then (kwas_ (kon_ E true) false) else (kwas_ (kon_ E true) true))) else (if a1 = (772 : Int32) then (kenabled_ E (a2 &&& (2184 : Int32))) else (if a1 = (773 : Int32) then (kvector_ E (a2 &&& (-3 : Int32))) else (if a1 = (832 : Int32) then (kscratch_ E a2) else (if a1 = (833 : Int32) then (kback_ E (a2 &&& (-4 : Int32))) else (if a1 = (834 : Int32) then (kcause_ E (a2 &&& (-2147483633 : Int32))) else (if a1 = (835 : Int32) then (kvalue_ E a2) else E)))))))
def f_X4_setD (nW nB : Nat) (E : KS) (a1 : Int32) (a2 : Int32) : KS :=
  (if ((jushr a1 (7 : Int32)) &&& (31 : Int32)) = 0 then E else (kx_ E (upd (kx E) (((jushr a1 (7 : Int32)) &&& (31 : Int32))).toNatClampNeg a2)))
def f_X4_retire (nW nB : Nat) (E : KS) (a1 : Int32) (a2 : Int32) : Int32 × KS :=
  (f_X4_retireAt nW nB (f_X4_setD nW nB E a1 a2) ((kplace (f_X4_setD nW nB E a1 a2)) + (4 : Int32)))
def f_X4_control (nW nB : Nat) (E : KS) (a1 : Int32) : Int32 × KS :=
  (if ((f_X4_f a1) &&& (3 : Int32)) = (1 : Int32) then (if ((f_X4_f a1) &&& (3 : Int32)) = 0 then (f_X4_illegal nW nB E a1) else (if (b2i (f_X0_lists (jushr a1 (20 : Int32)))) = 0 then (f_X4_illegal nW nB E a1) else (if (jushr a1 (20 : Int32)) < (3072 : Int32) then (if (4 : Int32) ≤ (f_X4_f a1) then (f_X4_retire nW nB (f_X0_set nW nB E (jushr a1 (20 : Int32)) (f_X4_s a1)) a1 (f_X0_get nW nB E (jushr a1 (20 : Int32)) (f_X3_isDue nW nB E))) else (f_X4_retire nW nB (f_X0_set nW nB E (jushr a1 (20 : Int32)) (f_X4_a nW nB E a1)) a1 (f_X0_get nW nB E (jushr a1 (20 : Int32)) (f_X3_isDue nW nB E)))) else (f_X4_illegal nW nB E a1)))) else (if (f_X4_s a1) = 0 then (if ((f_X4_f a1) &&& (3 : Int32)) = 0 then (f_X4_illegal nW nB E a1) else (if (b2i (f_X0_lists (jushr a1 (20 : Int32)))) = 0 then (f_X4_illegal nW nB E a1) else (if (4 : Int32) ≤ (f_X4_f a1) then (f_X4_retire nW nB E a1 (f_X0_get nW nB E (jushr a1 (20 : Int32)) (f_X3_isDue nW nB E))) else (f_X4_retire nW nB E a1 (f_X0_get nW nB E (jushr a1 (20 : Int32)) (f_X3_isDue nW nB E)))))) else (if ((f_X4_f a1) &&& (3 : Int32)) = 0 then (f_X4_illegal nW nB E a1) else (if (b2i (f_X0_lists (jushr a1 (20 : Int32)))) = 0 then (f_X4_illegal nW nB E a1) else (if (jushr a1 (20 : Int32)) < (3072 : Int32) then (if (4 : Int32) ≤ (f_X4_f a1) then (if ((f_X4_f a1) &&& (3 : Int32)) = (2 : Int32) then (f_X4_retire nW nB (f_X0_set nW nB E (jushr a1 (20 : Int32)) ((f_X0_get nW nB E (jushr a1 (20 : Int32)) (f_X3_isDue nW nB E)) ||| (f_X4_s a1))) a1 (f_X0_get nW nB E (jushr a1 (20 : Int32)) (f_X3_isDue nW nB E))) else (f_X4_retire nW nB (f_X0_set nW nB E (jushr a1 (20 : Int32)) ((f_X0_get nW nB E (jushr a1 (20 : Int32)) (f_X3_isDue nW nB E)) &&& ((f_X4_s a1) ^^^ (-1 : Int32)))) a1 (f_X0_get nW nB E (jushr a1 (20 : Int32)) (f_X3_isDue nW nB E)))) else (if ((f_X4_f a1) &&& (3 : Int32)) = (2 : Int32) then (f_X4_retire nW nB (f_X0_set nW nB E (jushr a1 (20 : Int32)) ((f_X0_get nW nB E (jushr a1 (20 : Int32)) (f_X3_isDue nW nB E)) ||| (f_X4_a nW nB E a1))) a1 (f_X0_get nW nB E (jushr a1 (20 : Int32)) (f_X3_isDue nW nB E))) else (f_X4_retire nW nB (f_X0_set nW nB E (jushr a1 (20 : Int32)) ((f_X0_get nW nB E (jushr a1 (20 : Int32)) (f_X3_isDue nW nB E)) &&& ((f_X4_a nW nB E a1) ^^^ (-1 : Int32)))) a1 (f_X0_get nW nB E (jushr a1 (20 : Int32)) (f_X3_isDue nW nB E))))) else (f_X4_illegal nW nB E a1))))))
def f_X4_jump (nW nB : Nat) (E : KS) (a1 : Int32) (a2 : Int32) : Int32 × KS :=
  (if (a2 &&& (3 : Int32)) = 0 then (f_X4_retireAt nW nB (f_X4_setD nW nB E a1 ((kplace E) + (4 : Int32))) a2) else (f_X4_trap nW nB E (0 : Int32) a2))
def f_X4_offsetI (a1 : Int32) : Int32 :=
  (a1 >>> ((20 : Int32) &&& 31))
def f_X4_offsetJ (a1 : Int32) : Int32 :=
  (((((a1 >>> ((31 : Int32) &&& 31)) <<< ((20 : Int32) &&& 31)) ||| (a1 &&& (1044480 : Int32))) ||| (((jushr a1 (20 : Int32)) &&& (1 : Int32)) <<< ((11 : Int32) &&& 31))) ||| (((jushr a1 (21 : Int32)) &&& (1023 : Int32)) <<< ((1 : Int32) &&& 31)))
def f_X2_room (nW nB : Nat) (E : KS) : Int32 :=
  ((nI nB) - (ksent E))
def f_X3_isTime (a1 : Int32) : Bool :=
  (if a1 = (33603576 : Int32) then true else (if a1 = (33603580 : Int32) then true else false))
def f_X3_isUpper (a1 : Int32) : Bool :=
  (if a1 = (33603580 : Int32) then true else (if a1 = (33570820 : Int32) then true else false))
def f_X3_half (nW nB : Nat) (E : KS) (a1 : Int32) : Int32 :=
  (if (b2i (f_X3_isTime a1)) = 0 then (if (b2i (f_X3_isUpper a1)) = 0 then ((klimit E)).toInt32 else ((jlushr (klimit E) (32 : Int32))).toInt32) else (if (b2i (f_X3_isUpper a1)) = 0 then ((ktime E)).toInt32 else ((jlushr (ktime E) (32 : Int32))).toInt32))
def f_X3_holds (a1 : Int32) : Bool :=
  (if a1 = (33603576 : Int32) then true else (if a1 = (33603580 : Int32) then true else (if a1 = (33570816 : Int32) then true else (if a1 = (33570820 : Int32) then true else false))))
def f_X4_extended (a1 : Int32) (a2 : Int32) : Int32 :=
  (if a1 = (0 : Int32) then (a2).toInt8.toInt32 else (if a1 = (1 : Int32) then (a2).toInt16.toInt32 else a2))
def f_X4_read (nW nB : Nat) (E : KS) (a1 : Int32) : Int32 × KS :=
  (if (f_X4_f a1) = (3 : Int32) then (f_X4_illegal nW nB E a1) else (if (f_X4_f a1) ≤ (5 : Int32) then (if (((f_X4_a nW nB E a1) + (f_X4_offsetI a1)) &&& (((1 : Int32) <<< (((f_X4_f a1) &&& (3 : Int32)) &&& 31)) - (1 : Int32))) = 0 then (if (b2i (f_X1_holds nW nB E ((f_X4_a nW nB E a1) + (f_X4_offsetI a1)))) = 0 then (if ((1 : Int32) <<< (((f_X4_f a1) &&& (3 : Int32)) &&& 31)) = (4 : Int32) then (if (b2i (f_X3_holds ((f_X4_a nW nB E a1) + (f_X4_offsetI a1)))) = 0 then (if ((f_X4_a nW nB E a1) + (f_X4_offsetI a1)) = (268435456 : Int32) then (f_X4_retire nW nB E a1 (f_X2_room nW nB E)) else (f_X4_trap nW nB E (5 : Int32) ((f_X4_a nW nB E a1) + (f_X4_offsetI a1)))) else (f_X4_retire nW nB E a1 (f_X3_half nW nB E ((f_X4_a nW nB E a1) + (f_X4_offsetI a1))))) else (f_X4_trap nW nB E (5 : Int32) ((f_X4_a nW nB E a1) + (f_X4_offsetI a1)))) else (f_X4_retire nW nB E a1 (f_X4_extended (f_X4_f a1) (f_X1_get nW nB E ((f_X4_a nW nB E a1) + (f_X4_offsetI a1)) ((1 : Int32) <<< (((f_X4_f a1) &&& (3 : Int32)) &&& 31)))))) else (f_X4_trap nW nB E (4 : Int32) ((f_X4_a nW nB E a1) + (f_X4_offsetI a1)))) else (f_X4_illegal nW nB E a1)))
def f_X4_g (a1 : Int32) : Int32 :=
  (jushr a1 (25 : Int32))
def f_X4_reckoned (a1 : Int32) (a2 : Bool) (a3 : Int32) (a4 : Int32) : Int32 :=
  (if a1 = (0 : Int32) then (if (b2i a2) = 0 then (a3 + a4) else (a3 - a4)) else (if a1 = (1 : Int32) then (a3 <<< ((a4 &&& (31 : Int32)) &&& 31)) else (if a1 = (2 : Int32) then (if a4 ≤ a3 then (0 : Int32) else (1 : Int32)) else (if a1 = (3 : Int32) then (if (b2i (f_X4_belowUnsigned a3 a4)) = 0 then (0 : Int32) else (1 : Int32)) else (if a1 = (4 : Int32) then (a3 ^^^ a4) else (if a1 = (5 : Int32) then (if (b2i a2) = 0 then (jushr a3 (a4 &&& (31 : Int32))) else (a3 >>> ((a4 &&& (31 : Int32)) &&& 31))) else (if a1 = (6 : Int32) then (a3 ||| a4) else (a3 &&& a4))))))))
def f_X4_reckonWithNumber (nW nB : Nat) (E : KS) (a1 : Int32) : Int32 × KS :=
  (if (f_X4_f a1) = (1 : Int32) then (if (f_X4_g a1) = 0 then (if (f_X4_f a1) = (5 : Int32) then (if (f_X4_g a1) = (32 : Int32) then (f_X4_retire nW nB E a1 (f_X4_reckoned (f_X4_f a1) true (f_X4_a nW nB E a1) (f_X4_offsetI a1))) else (f_X4_retire nW nB E a1 (f_X4_reckoned (f_X4_f a1) false (f_X4_a nW nB E a1) (f_X4_offsetI a1)))) else (f_X4_retire nW nB E a1 (f_X4_reckoned (f_X4_f a1) false (f_X4_a nW nB E a1) (f_X4_offsetI a1)))) else (f_X4_illegal nW nB E a1)) else (if (f_X4_f a1) = (5 : Int32) then (if (f_X4_g a1) = 0 then (if (f_X4_g a1) = (32 : Int32) then (f_X4_retire nW nB E a1 (f_X4_reckoned (f_X4_f a1) true (f_X4_a nW nB E a1) (f_X4_offsetI a1))) else (f_X4_retire nW nB E a1 (f_X4_reckoned (f_X4_f a1) false (f_X4_a nW nB E a1) (f_X4_offsetI a1)))) else (if (f_X4_g a1) = (32 : Int32) then (f_X4_retire nW nB E a1 (f_X4_reckoned (f_X4_f a1) true (f_X4_a nW nB E a1) (f_X4_offsetI a1))) else (f_X4_illegal nW nB E a1))) else (f_X4_retire nW nB E a1 (f_X4_reckoned (f_X4_f a1) false (f_X4_a nW nB E a1) (f_X4_offsetI a1)))))
def f_X4_unsigned (a1 : Int32) : Int64 :=
  ((a1).toInt64 &&& (4294967295 : Int64))
def f_X4_divided (a1 : Int32) (a2 : Int32) (a3 : Int32) : Int32 :=
  (if a1 < (6 : Int32) then (if a3 = 0 then (-1 : Int32) else (if (a1 &&& (1 : Int32)) = 0 then (((a2).toInt64 / (a3).toInt64)).toInt32 else (((f_X4_unsigned a2) / (f_X4_unsigned a3))).toInt32)) else (if a3 = 0 then a2 else (if (a1 &&& (1 : Int32)) = 0 then (((a2).toInt64 - (a2).toInt64 / (a3).toInt64 * (a3).toInt64)).toInt32 else (((f_X4_unsigned a2) - (f_X4_unsigned a2) / (f_X4_unsigned a3) * (f_X4_unsigned a3))).toInt32)))
def f_X4_product (a1 : Int32) (a2 : Int32) (a3 : Int32) : Int32 :=
  (if a1 = (0 : Int32) then (a2 * a3) else (if a1 = (1 : Int32) then ((jlshr ((a2).toInt64 * (a3).toInt64) (32 : Int32))).toInt32 else (if a1 = (2 : Int32) then ((jlshr ((a2).toInt64 * (f_X4_unsigned a3)) (32 : Int32))).toInt32 else ((jlshr ((f_X4_unsigned a2) * (f_X4_unsigned a3)) (32 : Int32))).toInt32)))
def f_X4_reckonWithRegister (nW nB : Nat) (E : KS) (a1 : Int32) : Int32 × KS :=
  (if (f_X4_g a1) = (1 : Int32) then (if (4 : Int32) ≤ (f_X4_f a1) then (f_X4_retire nW nB E a1 (f_X4_divided (f_X4_f a1) (f_X4_a nW nB E a1) (f_X4_b nW nB E a1))) else (f_X4_retire nW nB E a1 (f_X4_product (f_X4_f a1) (f_X4_a nW nB E a1) (f_X4_b nW nB E a1)))) else (if (f_X4_g a1) = 0 then (if (f_X4_g a1) = (32 : Int32) then (f_X4_retire nW nB E a1 (f_X4_reckoned (f_X4_f a1) true (f_X4_a nW nB E a1) (f_X4_b nW nB E a1))) else (f_X4_retire nW nB E a1 (f_X4_reckoned (f_X4_f a1) false (f_X4_a nW nB E a1) (f_X4_b nW nB E a1)))) else (if (f_X4_g a1) = (32 : Int32) then (if (f_X4_f a1) = 0 then (f_X4_retire nW nB E a1 (f_X4_reckoned (f_X4_f a1) true (f_X4_a nW nB E a1) (f_X4_b nW nB E a1))) else (if (f_X4_f a1) = (5 : Int32) then (f_X4_retire nW nB E a1 (f_X4_reckoned (f_X4_f a1) true (f_X4_a nW nB E a1) (f_X4_b nW nB E a1))) else (f_X4_illegal nW nB E a1))) else (f_X4_illegal nW nB E a1))))
def f_X2_send (nW nB : Nat) (E : KS) (a1 : Int32) : Bool × KS :=
  (if (ksent E) < (nI nB) then (true, (ksent_ (kbytes_ E (upd (kbytes E) ((ksent E)).toNatClampNeg (vp_nar .byte (a1).toInt8.toInt32))) ((ksent E) + (1 : Int32)))) else (false, E))
def f_X3_withHalf (a1 : Int64) (a2 : Bool) (a3 : Int32) : Int64 :=
  (if (b2i a2) = 0 then ((a1 &&& (-4294967296 : Int64)) ||| (f_X4_unsigned a3)) else ((a1 &&& (4294967295 : Int64)) ||| (jlshl (a3).toInt64 (32 : Int32))))
def f_X3_setHalf (nW nB : Nat) (E : KS) (a1 : Int32) (a2 : Int32) : KS :=
  (if (b2i (f_X3_isTime a1)) = 0 then (klimit_ E (f_X3_withHalf (klimit E) (f_X3_isUpper a1) a2)) else (ktime_ E (f_X3_withHalf (ktime E) (f_X3_isUpper a1) a2)))
def f_X4_offsetS (a1 : Int32) : Int32 :=
  (((a1 >>> ((25 : Int32) &&& 31)) <<< ((5 : Int32) &&& 31)) ||| ((jushr a1 (7 : Int32)) &&& (31 : Int32)))
def f_X4_store (nW nB : Nat) (E : KS) (a1 : Int32) : Int32 × KS :=
  (if (f_X4_f a1) ≤ (2 : Int32) then (if (((f_X4_a nW nB E a1) + (f_X4_offsetS a1)) &&& (((1 : Int32) <<< ((f_X4_f a1) &&& 31)) - (1 : Int32))) = 0 then (if (b2i (f_X1_holds nW nB E ((f_X4_a nW nB E a1) + (f_X4_offsetS a1)))) = 0 then (if ((1 : Int32) <<< ((f_X4_f a1) &&& 31)) = (4 : Int32) then (if (b2i (f_X3_holds ((f_X4_a nW nB E a1) + (f_X4_offsetS a1)))) = 0 then (if ((f_X4_a nW nB E a1) + (f_X4_offsetS a1)) = (268435456 : Int32) then (if (b2i (f_X2_send nW nB E (f_X4_b nW nB E a1)).1) = 0 then ((4 : Int32), (f_X2_send nW nB E (f_X4_b nW nB E a1)).2) else (f_X4_retireAt nW nB (f_X2_send nW nB E (f_X4_b nW nB E a1)).2 ((kplace (f_X2_send nW nB E (f_X4_b nW nB E a1)).2) + (4 : Int32)))) else (f_X4_trap nW nB E (7 : Int32) ((f_X4_a nW nB E a1) + (f_X4_offsetS a1)))) else (f_X4_retireAt nW nB (f_X3_setHalf nW nB E ((f_X4_a nW nB E a1) + (f_X4_offsetS a1)) (f_X4_b nW nB E a1)) ((kplace (f_X3_setHalf nW nB E ((f_X4_a nW nB E a1) + (f_X4_offsetS a1)) (f_X4_b nW nB E a1))) + (4 : Int32)))) else (if ((f_X4_a nW nB E a1) + (f_X4_offsetS a1)) = (268435456 : Int32) then (if (b2i (f_X2_send nW nB E (f_X4_b nW nB E a1)).1) = 0 then ((4 : Int32), (f_X2_send nW nB E (f_X4_b nW nB E a1)).2) else (f_X4_retireAt nW nB (f_X2_send nW nB E (f_X4_b nW nB E a1)).2 ((kplace (f_X2_send nW nB E (f_X4_b nW nB E a1)).2) + (4 : Int32)))) else (f_X4_trap nW nB E (7 : Int32) ((f_X4_a nW nB E a1) + (f_X4_offsetS a1))))) else (f_X4_retireAt nW nB (f_X1_put nW nB E ((f_X4_a nW nB E a1) + (f_X4_offsetS a1)) ((1 : Int32) <<< ((f_X4_f a1) &&& 31)) (f_X4_b nW nB E a1)) ((kplace (f_X1_put nW nB E ((f_X4_a nW nB E a1) + (f_X4_offsetS a1)) ((1 : Int32) <<< ((f_X4_f a1) &&& 31)) (f_X4_b nW nB E a1))) + (4 : Int32)))) else (f_X4_trap nW nB E (6 : Int32) ((f_X4_a nW nB E a1) + (f_X4_offsetS a1)))) else (f_X4_illegal nW nB E a1))
def f_X0_leave (nW nB : Nat) (E : KS) : Int32 × KS :=
  ((kback E), (kwas_ (kon_ E (kwas E)) true))
def f_X4_system (nW nB : Nat) (E : KS) (a1 : Int32) : Int32 × KS :=
  (if a1 = (115 : Int32) then (f_X4_trap nW nB E (11 : Int32) (0 : Int32)) else (if a1 = (1048691 : Int32) then (f_X4_trap nW nB E (3 : Int32) (kplace E)) else (if a1 = (273678451 : Int32) then (f_X4_retireAt nW nB (kwaiting_ E true) ((kplace E) + (4 : Int32))) else (if a1 = (807403635 : Int32) then (f_X4_retireAt nW nB (f_X0_leave nW nB E).2 (f_X0_leave nW nB E).1) else (f_X4_illegal nW nB E a1)))))
def f_X4_instruct (nW nB : Nat) (E : KS) : Int32 × KS :=
  (if (b2i (f_X1_holds nW nB E (kplace E))) = 0 then (f_X4_trap nW nB E (1 : Int32) (kplace E)) else (if ((f_X1_get nW nB E (kplace E) (4 : Int32)) &&& (127 : Int32)) = (3 : Int32) then (f_X4_read nW nB E (f_X1_get nW nB E (kplace E) (4 : Int32))) else (if ((f_X1_get nW nB E (kplace E) (4 : Int32)) &&& (127 : Int32)) = (15 : Int32) then (if (f_X4_f (f_X1_get nW nB E (kplace E) (4 : Int32))) = 0 then (f_X4_retireAt nW nB E ((kplace E) + (4 : Int32))) else (f_X4_illegal nW nB E (f_X1_get nW nB E (kplace E) (4 : Int32)))) else (if ((f_X1_get nW nB E (kplace E) (4 : Int32)) &&& (127 : Int32)) = (19 : Int32) then (f_X4_reckonWithNumber nW nB E (f_X1_get nW nB E (kplace E) (4 : Int32))) else (if ((f_X1_get nW nB E (kplace E) (4 : Int32)) &&& (127 : Int32)) = (23 : Int32) then (f_X4_retire nW nB E (f_X1_get nW nB E (kplace E) (4 : Int32)) ((kplace E) + ((f_X1_get nW nB E (kplace E) (4 : Int32)) &&& (-4096 : Int32)))) else (if ((f_X1_get nW nB E (kplace E) (4 : Int32)) &&& (127 : Int32)) = (35 : Int32) then (f_X4_store nW nB E (f_X1_get nW nB E (kplace E) (4 : Int32))) else (if ((f_X1_get nW nB E (kplace E) (4 : Int32)) &&& (127 : Int32)) = (51 : Int32) then (f_X4_reckonWithRegister nW nB E (f_X1_get nW nB E (kplace E) (4 : Int32))) else (if ((f_X1_get nW nB E (kplace E) (4 : Int32)) &&& (127 : Int32)) = (55 : Int32) then (f_X4_retire nW nB E (f_X1_get nW nB E (kplace E) (4 : Int32)) ((f_X1_get nW nB E (kplace E) (4 : Int32)) &&& (-4096 : Int32))) else (if ((f_X1_get nW nB E (kplace E) (4 : Int32)) &&& (127 : Int32)) = (99 : Int32) then (f_X4_branch nW nB E (f_X1_get nW nB E (kplace E) (4 : Int32))) else (if ((f_X1_get nW nB E (kplace E) (4 : Int32)) &&& (127 : Int32)) = (103 : Int32) then (if (f_X4_f (f_X1_get nW nB E (kplace E) (4 : Int32))) = 0 then (f_X4_jump nW nB E (f_X1_get nW nB E (kplace E) (4 : Int32)) (((f_X4_a nW nB E (f_X1_get nW nB E (kplace E) (4 : Int32))) + (f_X4_offsetI (f_X1_get nW nB E (kplace E) (4 : Int32)))) &&& (-2 : Int32))) else (f_X4_illegal nW nB E (f_X1_get nW nB E (kplace E) (4 : Int32)))) else (if ((f_X1_get nW nB E (kplace E) (4 : Int32)) &&& (127 : Int32)) = (111 : Int32) then (f_X4_jump nW nB E (f_X1_get nW nB E (kplace E) (4 : Int32)) ((kplace E) + (f_X4_offsetJ (f_X1_get nW nB E (kplace E) (4 : Int32))))) else (if ((f_X1_get nW nB E (kplace E) (4 : Int32)) &&& (127 : Int32)) = (115 : Int32) then (if (f_X4_f (f_X1_get nW nB E (kplace E) (4 : Int32))) = 0 then (f_X4_system nW nB E (f_X1_get nW nB E (kplace E) (4 : Int32))) else (f_X4_control nW nB E (f_X1_get nW nB E (kplace E) (4 : Int32)))) else (f_X4_illegal nW nB E (f_X1_get nW nB E (kplace E) (4 : Int32)))))))))))))))
def f_X4_stepOnce (nW nB : Nat) (E : KS) : Int32 × KS :=
  (if (b2i (f_X0_timerEnabled nW nB E)) = 0 then (if (b2i (kwaiting E)) = 0 then (if (f_X4_instruct nW nB (kwaiting_ E false)).1 = (4 : Int32) then ((f_X4_instruct nW nB (kwaiting_ E false)).1, (kwaiting_ (f_X4_instruct nW nB (kwaiting_ E false)).2 (kwaiting E))) else (f_X4_instruct nW nB (kwaiting_ E false))) else ((3 : Int32), E)) else (if (b2i (f_X3_isDue nW nB E)) = 0 then (if (b2i (kwaiting E)) = 0 then (if (f_X4_instruct nW nB (kwaiting_ E false)).1 = (4 : Int32) then ((f_X4_instruct nW nB (kwaiting_ E false)).1, (kwaiting_ (f_X4_instruct nW nB (kwaiting_ E false)).2 (kwaiting E))) else (f_X4_instruct nW nB (kwaiting_ E false))) else ((3 : Int32), E)) else (if (b2i (kon E)) = 0 then (if (b2i (kwaiting E)) = 0 then (if (f_X4_instruct nW nB (kwaiting_ E false)).1 = (4 : Int32) then ((f_X4_instruct nW nB (kwaiting_ E false)).1, (kwaiting_ (f_X4_instruct nW nB (kwaiting_ E false)).2 (kwaiting E))) else (f_X4_instruct nW nB (kwaiting_ E false))) else (if (f_X4_instruct nW nB (kwaiting_ E false)).1 = (4 : Int32) then ((f_X4_instruct nW nB (kwaiting_ E false)).1, (kwaiting_ (f_X4_instruct nW nB (kwaiting_ E false)).2 (kwaiting E))) else (f_X4_instruct nW nB (kwaiting_ E false)))) else (if (b2i (f_X0_hasOwnEntries nW nB (f_X0_enter nW nB (kwaiting_ E false) (kplace E) (-2147483641 : Int32) (0 : Int32)).2)) = 0 then ((2 : Int32), (kplace_ (f_X0_enter nW nB (kwaiting_ E false) (kplace E) (-2147483641 : Int32) (0 : Int32)).2 (f_X0_enter nW nB (kwaiting_ E false) (kplace E) (-2147483641 : Int32) (0 : Int32)).1)) else ((2 : Int32), (kplace_ (f_X0_enter nW nB (kwaiting_ E false) (kplace E) (-2147483641 : Int32) (0 : Int32)).2 ((f_X0_enter nW nB (kwaiting_ E false) (kplace E) (-2147483641 : Int32) (0 : Int32)).1 + (28 : Int32))))))))
def f_X4_step (nW nB : Nat) (E : KS) : Int32 × KS :=
  ((f_X4_stepOnce nW nB E).1, (klatest_ (f_X4_stepOnce nW nB E).2 (f_X4_stepOnce nW nB E).1))
def f_X4_tick (nW nB : Nat) (E : KS) : KS :=
  (f_X3_advance nW nB E)
def f_X4_told (nW nB : Nat) (E : KS) (a1 : Int32) : Int64 :=
  (if a1 = (0 : Int32) then (ktime E) else (if a1 = (1 : Int32) then (klimit E) else (if a1 = (2 : Int32) then (kretired E) else (if a1 = (3 : Int32) then (if (b2i (kwaiting E)) = 0 then (0 : Int64) else (1 : Int64)) else (if a1 = (4 : Int32) then ((klatest E)).toInt64 else (0 : Int64))))))
def f_X5_isDue (sz mo : Int32) (E : MS) : Bool :=
  (if (lg_cmp ((mtime E) ^^^ (-9223372036854775808 : Int64)) ((mlimit E) ^^^ (-9223372036854775808 : Int64))) < 0 then false else true)
def f_X5_csr (sz mo : Int32) (E : MS) (a1 : Int32) : Int32 :=
  (if a1 = (768 : Int32) then (if (b2i (mmie E)) = 0 then (if (b2i (mmpie E)) = 0 then (((6144 : Int32) ||| (0 : Int32)) ||| (0 : Int32)) else (((6144 : Int32) ||| (0 : Int32)) ||| (128 : Int32))) else (if (b2i (mmpie E)) = 0 then (((6144 : Int32) ||| (8 : Int32)) ||| (0 : Int32)) else (((6144 : Int32) ||| (8 : Int32)) ||| (128 : Int32)))) else (if a1 = (769 : Int32) then (1073746176 : Int32) else (if a1 = (772 : Int32) then (mmieBits E) else (if a1 = (773 : Int32) then (mmtvec E) else (if a1 = (832 : Int32) then (mmscratch E) else (if a1 = (833 : Int32) then (mmepc E) else (if a1 = (834 : Int32) then (mmcause E) else (if a1 = (835 : Int32) then (mmtval E) else (if a1 = (836 : Int32) then (if (b2i (f_X5_isDue sz mo E)) = 0 then (0 : Int32) else (128 : Int32)) else (0 : Int32))))))))))
def f_X5_isThere (sz mo : Int32) (E : MS) (a1 : Int32) (a2 : Int32) : Bool :=
  (if a1 < 0 then false else (if (sz - a2) < a1 then false else true))
def f_X5_put_1 (sz mo : Int32) (E : MS) (a1 : Int32) (a3 : Int32) : MS :=
  (mmemory_ E (upd (mmemory E) ((a1 + (0 : Int32))).toNatClampNeg ((a3 >>> (((8 : Int32) * (0 : Int32)) &&& 31)) &&& (255 : Int32))))
def f_X5_put_2 (sz mo : Int32) (E : MS) (a1 : Int32) (a3 : Int32) : MS :=
  (mmemory_ (mmemory_ E (upd (mmemory E) ((a1 + (0 : Int32))).toNatClampNeg ((a3 >>> (((8 : Int32) * (0 : Int32)) &&& 31)) &&& (255 : Int32)))) (upd (mmemory (mmemory_ E (upd (mmemory E) ((a1 + (0 : Int32))).toNatClampNeg ((a3 >>> (((8 : Int32) * (0 : Int32)) &&& 31)) &&& (255 : Int32))))) ((a1 + (1 : Int32))).toNatClampNeg ((a3 >>> (((8 : Int32) * (1 : Int32)) &&& 31)) &&& (255 : Int32))))
def f_X5_put_4 (sz mo : Int32) (E : MS) (a1 : Int32) (a3 : Int32) : MS :=
  (mmemory_ (mmemory_ (mmemory_ (mmemory_ E (upd (mmemory E) ((a1 + (0 : Int32))).toNatClampNeg ((a3 >>> (((8 : Int32) * (0 : Int32)) &&& 31)) &&& (255 : Int32)))) (upd (mmemory (mmemory_ E (upd (mmemory E) ((a1 + (0 : Int32))).toNatClampNeg ((a3 >>> (((8 : Int32) * (0 : Int32)) &&& 31)) &&& (255 : Int32))))) ((a1 + (1 : Int32))).toNatClampNeg ((a3 >>> (((8 : Int32) * (1 : Int32)) &&& 31)) &&& (255 : Int32)))) (upd (mmemory (mmemory_ (mmemory_ E (upd (mmemory E) ((a1 + (0 : Int32))).toNatClampNeg ((a3 >>> (((8 : Int32) * (0 : Int32)) &&& 31)) &&& (255 : Int32)))) (upd (mmemory (mmemory_ E (upd (mmemory E) ((a1 + (0 : Int32))).toNatClampNeg ((a3 >>> (((8 : Int32) * (0 : Int32)) &&& 31)) &&& (255 : Int32))))) ((a1 + (1 : Int32))).toNatClampNeg ((a3 >>> (((8 : Int32) * (1 : Int32)) &&& 31)) &&& (255 : Int32))))) ((a1 + (2 : Int32))).toNatClampNeg ((a3 >>> (((8 : Int32) * (2 : Int32)) &&& 31)) &&& (255 : Int32)))) (upd (mmemory (mmemory_ (mmemory_ (mmemory_ E (upd (mmemory E) ((a1 + (0 : Int32))).toNatClampNeg ((a3 >>> (((8 : Int32) * (0 : Int32)) &&& 31)) &&& (255 : Int32)))) (upd (mmemory (mmemory_ E (upd (mmemory E) ((a1 + (0 : Int32))).toNatClampNeg ((a3 >>> (((8 : Int32) * (0 : Int32)) &&& 31)) &&& (255 : Int32))))) ((a1 + (1 : Int32))).toNatClampNeg ((a3 >>> (((8 : Int32) * (1 : Int32)) &&& 31)) &&& (255 : Int32)))) (upd (mmemory (mmemory_ (mmemory_ E (upd (mmemory E) ((a1 + (0 : Int32))).toNatClampNeg ((a3 >>> (((8 : Int32) * (0 : Int32)) &&& 31)) &&& (255 : Int32)))) (upd (mmemory (mmemory_ E (upd (mmemory E) ((a1 + (0 : Int32))).toNatClampNeg ((a3 >>> (((8 : Int32) * (0 : Int32)) &&& 31)) &&& (255 : Int32))))) ((a1 + (1 : Int32))).toNatClampNeg ((a3 >>> (((8 : Int32) * (1 : Int32)) &&& 31)) &&& (255 : Int32))))) ((a1 + (2 : Int32))).toNatClampNeg ((a3 >>> (((8 : Int32) * (2 : Int32)) &&& 31)) &&& (255 : Int32))))) ((a1 + (3 : Int32))).toNatClampNeg ((a3 >>> (((8 : Int32) * (3 : Int32)) &&& 31)) &&& (255 : Int32))))
def f_X5_put (sz mo : Int32) (E : MS) (a1 a2 a3 : Int32) : MS := if a2 = 1 then f_X5_put_1 sz mo E a1 a3 else if a2 = 2 then f_X5_put_2 sz mo E a1 a3 else f_X5_put_4 sz mo E a1 a3
def f_X5_load (sz mo : Int32) (E : MS) (a1 : Int32) (a2 : Int32) : Bool × MS :=
  (if (b2i (f_X5_isThere sz mo E a1 (4 : Int32))) = 0 then (false, E) else (true, (f_X5_put sz mo E a1 (4 : Int32) a2)))
def f_X5_out (sz mo : Int32) (E : MS) (a1 : Int32) : Int32 :=
  (if a1 < 0 then (-1 : Int32) else (if (msentMany E) ≤ a1 then (-1 : Int32) else (msent E (a1).toNatClampNeg)))
def f_X5_outSize (sz mo : Int32) (E : MS) : Int32 :=
  (msentMany E)
def f_X5_pc (sz mo : Int32) (E : MS) : Int32 :=
  (mpc E)
def f_X5_peek (sz mo : Int32) (E : MS) (a1 : Int32) : Int32 :=
  (if (b2i (f_X5_isThere sz mo E a1 (1 : Int32))) = 0 then (-1 : Int32) else (mmemory E (a1).toNatClampNeg))
def f_X5_poke (sz mo : Int32) (E : MS) (a1 : Int32) (a2 : Int32) : Bool × MS :=
  (if (b2i (f_X5_isThere sz mo E a1 (1 : Int32))) = 0 then (false, E) else (true, (mmemory_ E (upd (mmemory E) (a1).toNatClampNeg (a2 &&& (255 : Int32))))))
def f_X5_reg (sz mo : Int32) (E : MS) (a1 : Int32) : Int32 :=
  (mx E ((a1 &&& (31 : Int32))).toNatClampNeg)
def f_X5_get_1 (sz mo : Int32) (E : MS) (a1 : Int32) : Int32 :=
  (((0 : Int32) <<< ((8 : Int32) &&& 31)) ||| (mmemory E ((a1 + (0 : Int32))).toNatClampNeg))
def f_X5_get_2 (sz mo : Int32) (E : MS) (a1 : Int32) : Int32 :=
  (((((0 : Int32) <<< ((8 : Int32) &&& 31)) ||| (mmemory E ((a1 + (1 : Int32))).toNatClampNeg)) <<< ((8 : Int32) &&& 31)) ||| (mmemory E ((a1 + (0 : Int32))).toNatClampNeg))
def f_X5_get_4 (sz mo : Int32) (E : MS) (a1 : Int32) : Int32 :=
  (((((((((0 : Int32) <<< ((8 : Int32) &&& 31)) ||| (mmemory E ((a1 + (3 : Int32))).toNatClampNeg)) <<< ((8 : Int32) &&& 31)) ||| (mmemory E ((a1 + (2 : Int32))).toNatClampNeg)) <<< ((8 : Int32) &&& 31)) ||| (mmemory E ((a1 + (1 : Int32))).toNatClampNeg)) <<< ((8 : Int32) &&& 31)) ||| (mmemory E ((a1 + (0 : Int32))).toNatClampNeg))
def f_X5_get (sz mo : Int32) (E : MS) (a1 a2 : Int32) : Int32 := if a2 = 1 then f_X5_get_1 sz mo E a1 else if a2 = 2 then f_X5_get_2 sz mo E a1 else f_X5_get_4 sz mo E a1
def f_X5_trap (sz mo : Int32) (E : MS) (a1 : Int32) (a2 : Int32) : Int32 × MS :=
  ((1 : Int32), (mpc_ (mmie_ (mmpie_ (mmtval_ (mmcause_ (mmepc_ E (mpc E)) a1) a2) (mmie E)) false) ((mmtvec E) &&& (-4 : Int32))))
def f_X5_become (sz mo : Int32) (E : MS) (a1 : Int32) : Int32 × MS :=
  (if (md E) = 0 then ((-1 : Int32), (mx_ E (upd (mx E) ((md E)).toNatClampNeg (0 : Int32)))) else ((-1 : Int32), (mx_ E (upd (mx E) ((md E)).toNatClampNeg a1))))
def f_X5_goTo (sz mo : Int32) (E : MS) (a1 : Int32) (a2 : Bool) : Int32 × MS :=
  (if (a1 &&& (3 : Int32)) = 0 then (if (b2i a2) = 0 then ((-1 : Int32), (mnext_ E a1)) else ((f_X5_become sz mo E ((mpc E) + (4 : Int32))).1, (mnext_ (f_X5_become sz mo E ((mpc E) + (4 : Int32))).2 a1))) else (f_X5_trap sz mo E (0 : Int32) a1))
def f_X5_illegal (sz mo : Int32) (E : MS) : Int32 × MS :=
  (f_X5_trap sz mo E (2 : Int32) (mword E))
def f_X5_isBelow (a1 : Int32) (a2 : Int32) : Bool :=
  (if (a2 ^^^ (-2147483648 : Int32)) ≤ (a1 ^^^ (-2147483648 : Int32)) then false else true)
def f_X5_branch (sz mo : Int32) (E : MS) : Int32 × MS :=
  (if (mf E) = (0 : Int32) then (if (mx E ((ms E)).toNatClampNeg) = (mx E ((mt E)).toNatClampNeg) then (f_X5_goTo sz mo E ((mpc E) + ((((((mword E) >>> ((31 : Int32) &&& 31)) <<< ((12 : Int32) &&& 31)) ||| ((((mword E) >>> ((7 : Int32) &&& 31)) &&& (1 : Int32)) <<< ((11 : Int32) &&& 31))) ||| ((((mword E) >>> ((25 : Int32) &&& 31)) &&& (63 : Int32)) <<< ((5 : Int32) &&& 31))) ||| ((((mword E) >>> ((8 : Int32) &&& 31)) &&& (15 : Int32)) <<< ((1 : Int32) &&& 31)))) false) else ((-1 : Int32), E)) else (if (mf E) = (1 : Int32) then (if (mx E ((ms E)).toNatClampNeg) = (mx E ((mt E)).toNatClampNeg) then ((-1 : Int32), E) else (f_X5_goTo sz mo E ((mpc E) + ((((((mword E) >>> ((31 : Int32) &&& 31)) <<< ((12 : Int32) &&& 31)) ||| ((((mword E) >>> ((7 : Int32) &&& 31)) &&& (1 : Int32)) <<< ((11 : Int32) &&& 31))) ||| ((((mword E) >>> ((25 : Int32) &&& 31)) &&& (63 : Int32)) <<< ((5 : Int32) &&& 31))) ||| ((((mword E) >>> ((8 : Int32) &&& 31)) &&& (15 : Int32)) <<< ((1 : Int32) &&& 31)))) false)) else (if (mf E) = (2 : Int32) then (f_X5_illegal sz mo E) else (if (mf E) = (3 : Int32) then (f_X5_illegal sz mo E) else (if (mf E) = (4 : Int32) then (if (mx E ((mt E)).toNatClampNeg) ≤ (mx E ((ms E)).toNatClampNeg) then ((-1 : Int32), E) else (f_X5_goTo sz mo E ((mpc E) + ((((((mword E) >>> ((31 : Int32) &&& 31)) <<< ((12 : Int32) &&& 31)) ||| ((((mword E) >>> ((7 : Int32) &&& 31)) &&& (1 : Int32)) <<< ((11 : Int32) &&& 31))) ||| ((((mword E) >>> ((25 : Int32) &&& 31)) &&& (63 : Int32)) <<< ((5 : Int32) &&& 31))) ||| ((((mword E) >>> ((8 : Int32) &&& 31)) &&& (15 : Int32)) <<< ((1 : Int32) &&& 31)))) false)) else (if (mf E) = (5 : Int32) then (if (mx E ((ms E)).toNatClampNeg) < (mx E ((mt E)).toNatClampNeg) then ((-1 : Int32), E) else (f_X5_goTo sz mo E ((mpc E) + ((((((mword E) >>> ((31 : Int32) &&& 31)) <<< ((12 : Int32) &&& 31)) ||| ((((mword E) >>> ((7 : Int32) &&& 31)) &&& (1 : Int32)) <<< ((11 : Int32) &&& 31))) ||| ((((mword E) >>> ((25 : Int32) &&& 31)) &&& (63 : Int32)) <<< ((5 : Int32) &&& 31))) ||| ((((mword E) >>> ((8 : Int32) &&& 31)) &&& (15 : Int32)) <<< ((1 : Int32) &&& 31)))) false)) else (if (mf E) = (6 : Int32) then (if (b2i (f_X5_isBelow (mx E ((ms E)).toNatClampNeg) (mx E ((mt E)).toNatClampNeg))) = 0 then ((-1 : Int32), E) else (f_X5_goTo sz mo E ((mpc E) + ((((((mword E) >>> ((31 : Int32) &&& 31)) <<< ((12 : Int32) &&& 31)) ||| ((((mword E) >>> ((7 : Int32) &&& 31)) &&& (1 : Int32)) <<< ((11 : Int32) &&& 31))) ||| ((((mword E) >>> ((25 : Int32) &&& 31)) &&& (63 : Int32)) <<< ((5 : Int32) &&& 31))) ||| ((((mword E) >>> ((8 : Int32) &&& 31)) &&& (15 : Int32)) <<< ((1 : Int32) &&& 31)))) false)) else (if (mf E) = (7 : Int32) then (if (b2i (f_X5_isBelow (mx E ((ms E)).toNatClampNeg) (mx E ((mt E)).toNatClampNeg))) = 0 then (f_X5_goTo sz mo E ((mpc E) + ((((((mword E) >>> ((31 : Int32) &&& 31)) <<< ((12 : Int32) &&& 31)) ||| ((((mword E) >>> ((7 : Int32) &&& 31)) &&& (1 : Int32)) <<< ((11 : Int32) &&& 31))) ||| ((((mword E) >>> ((25 : Int32) &&& 31)) &&& (63 : Int32)) <<< ((5 : Int32) &&& 31))) ||| ((((mword E) >>> ((8 : Int32) &&& 31)) &&& (15 : Int32)) <<< ((1 : Int32) &&& 31)))) false) else ((-1 : Int32), E)) else (f_X5_illegal sz mo E)))))))))
def f_X5_isListed (a1 : Int32) : Bool :=
  (if a1 = (768 : Int32) then true else (if a1 = (769 : Int32) then true else (if a1 = (772 : Int32) then true else (if a1 = (773 : Int32) then true else (if a1 < (832 : Int32) then (if a1 = (3860 : Int32) then true else false) else (if a1 ≤ (836 : Int32) then true else (if a1 = (3860 : Int32) then true else false)))))))
def f_X5_setCsr (sz mo : Int32) (E : MS) (a1 : Int32) (a2 : Int32) : MS :=
  (if a1 = (768 : Int32) then (if (a2 &&& (8 : Int32)) = 0 then (if (a2 &&& (128 : Int32)) = 0 then (mmpie_ (mmie_ E false) false) else (mmpie_ (mmie_ E false) true)) else (if (a2 &&& (128 : Int32)) = 0 then (mmpie_ (mmie_ E true) false) else (mmpie_ (mmie_ E true) true))) else (if a1 = (772 : Int32) then (mmieBits_ E (a2 &&& (2184 : Int32))) else (if a1 = (773 : Int32) then (mmtvec_ E (a2 &&& (-3 : Int32))) else (if a1 = (832 : Int32) then (mmscratch_ E a2) else (if a1 = (833 : Int32) then (mmepc_ E (a2 &&& (-4 : Int32))) else (if a1 = (834 : Int32) then (mmcause_ E (a2 &&& (-2147483633 : Int32))) else (if a1 = (835 : Int32) then (mmtval_ E a2) else E)))))))
def f_X5_control (sz mo : Int32) (E : MS) : Int32 × MS :=
  (if ((mf E) &&& (3 : Int32)) = (1 : Int32) then (if (mf E) = (4 : Int32) then (f_X5_illegal sz mo E) else (if (b2i (f_X5_isListed (((mword E) >>> ((20 : Int32) &&& 31)) &&& (4095 : Int32)))) = 0 then (f_X5_illegal sz mo E) else (if (((mword E) >>> ((20 : Int32) &&& 31)) &&& (4095 : Int32)) < (3072 : Int32) then (if (4 : Int32) ≤ (mf E) then (f_X5_become sz mo (f_X5_setCsr sz mo E (((mword E) >>> ((20 : Int32) &&& 31)) &&& (4095 : Int32)) (ms E)) (f_X5_csr sz mo E (((mword E) >>> ((20 : Int32) &&& 31)) &&& (4095 : Int32)))) else (f_X5_become sz mo (f_X5_setCsr sz mo E (((mword E) >>> ((20 : Int32) &&& 31)) &&& (4095 : Int32)) (mx E ((ms E)).toNatClampNeg)) (f_X5_csr sz mo E (((mword E) >>> ((20 : Int32) &&& 31)) &&& (4095 : Int32))))) else (f_X5_illegal sz mo E)))) else (if (ms E) = 0 then (if (mf E) = (4 : Int32) then (f_X5_illegal sz mo E) else (if (b2i (f_X5_isListed (((mword E) >>> ((20 : Int32) &&& 31)) &&& (4095 : Int32)))) = 0 then (f_X5_illegal sz mo E) else (if (4 : Int32) ≤ (mf E) then (f_X5_become sz mo E (f_X5_csr sz mo E (((mword E) >>> ((20 : Int32) &&& 31)) &&& (4095 : Int32)))) else (f_X5_become sz mo E (f_X5_csr sz mo E (((mword E) >>> ((20 : Int32) &&& 31)) &&& (4095 : Int32))))))) else (if (mf E) = (4 : Int32) then (f_X5_illegal sz mo E) else (if (b2i (f_X5_isListed (((mword E) >>> ((20 : Int32) &&& 31)) &&& (4095 : Int32)))) = 0 then (f_X5_illegal sz mo E) else (if (((mword E) >>> ((20 : Int32) &&& 31)) &&& (4095 : Int32)) < (3072 : Int32) then (if (4 : Int32) ≤ (mf E) then (if ((mf E) &&& (3 : Int32)) = (2 : Int32) then (f_X5_become sz mo (f_X5_setCsr sz mo E (((mword E) >>> ((20 : Int32) &&& 31)) &&& (4095 : Int32)) ((f_X5_csr sz mo E (((mword E) >>> ((20 : Int32) &&& 31)) &&& (4095 : Int32))) ||| (ms E))) (f_X5_csr sz mo E (((mword E) >>> ((20 : Int32) &&& 31)) &&& (4095 : Int32)))) else (f_X5_become sz mo (f_X5_setCsr sz mo E (((mword E) >>> ((20 : Int32) &&& 31)) &&& (4095 : Int32)) ((f_X5_csr sz mo E (((mword E) >>> ((20 : Int32) &&& 31)) &&& (4095 : Int32))) &&& ((ms E) ^^^ (-1 : Int32)))) (f_X5_csr sz mo E (((mword E) >>> ((20 : Int32) &&& 31)) &&& (4095 : Int32))))) else (if ((mf E) &&& (3 : Int32)) = (2 : Int32) then (f_X5_become sz mo (f_X5_setCsr sz mo E (((mword E) >>> ((20 : Int32) &&& 31)) &&& (4095 : Int32)) ((f_X5_csr sz mo E (((mword E) >>> ((20 : Int32) &&& 31)) &&& (4095 : Int32))) ||| (mx E ((ms E)).toNatClampNeg))) (f_X5_csr sz mo E (((mword E) >>> ((20 : Int32) &&& 31)) &&& (4095 : Int32)))) else (f_X5_become sz mo (f_X5_setCsr sz mo E (((mword E) >>> ((20 : Int32) &&& 31)) &&& (4095 : Int32)) ((f_X5_csr sz mo E (((mword E) >>> ((20 : Int32) &&& 31)) &&& (4095 : Int32))) &&& ((mx E ((ms E)).toNatClampNeg) ^^^ (-1 : Int32)))) (f_X5_csr sz mo E (((mword E) >>> ((20 : Int32) &&& 31)) &&& (4095 : Int32)))))) else (f_X5_illegal sz mo E))))))
def f_X5_immediate (sz mo : Int32) (E : MS) : Int32 :=
  ((mword E) >>> ((20 : Int32) &&& 31))
def f_X5_isClock (a1 : Int32) : Bool :=
  (if a1 = (33603576 : Int32) then true else (if a1 = (33603580 : Int32) then true else (if a1 = (33570816 : Int32) then true else (if a1 = (33570820 : Int32) then true else false))))
def f_X5_isDevice (a1 : Int32) : Bool :=
  (if (b2i (f_X5_isClock a1)) = 0 then (if a1 = (268435456 : Int32) then true else false) else true)
def f_X5_read (sz mo : Int32) (E : MS) : Int32 × MS :=
  (if (mf E) = (3 : Int32) then (f_X5_illegal sz mo E) else (if (mf E) ≤ (5 : Int32) then (if (((mx E ((ms E)).toNatClampNeg) + (f_X5_immediate sz mo E)) &&& (((1 : Int32) <<< (((mf E) &&& (3 : Int32)) &&& 31)) - (1 : Int32))) = 0 then (if (b2i (f_X5_isThere sz mo E ((mx E ((ms E)).toNatClampNeg) + (f_X5_immediate sz mo E)) ((1 : Int32) <<< (((mf E) &&& (3 : Int32)) &&& 31)))) = 0 then (if ((1 : Int32) <<< (((mf E) &&& (3 : Int32)) &&& 31)) = (4 : Int32) then (if (b2i (f_X5_isDevice ((mx E ((ms E)).toNatClampNeg) + (f_X5_immediate sz mo E)))) = 0 then (f_X5_trap sz mo E (5 : Int32) ((mx E ((ms E)).toNatClampNeg) + (f_X5_immediate sz mo E))) else (if ((mx E ((ms E)).toNatClampNeg) + (f_X5_immediate sz mo E)) = (33603576 : Int32) then (if (mf E) = 0 then (f_X5_become sz mo E ((((mtime E)).toInt32 <<< ((24 : Int32) &&& 31)) >>> ((24 : Int32) &&& 31))) else (if (mf E) = (1 : Int32) then (f_X5_become sz mo E ((((mtime E)).toInt32 <<< ((16 : Int32) &&& 31)) >>> ((16 : Int32) &&& 31))) else (f_X5_become sz mo E ((mtime E)).toInt32))) else (if ((mx E ((ms E)).toNatClampNeg) + (f_X5_immediate sz mo E)) = (33603580 : Int32) then (if (mf E) = 0 then (f_X5_become sz mo E ((((jlshr (mtime E) (32 : Int32))).toInt32 <<< ((24 : Int32) &&& 31)) >>> ((24 : Int32) &&& 31))) else (if (mf E) = (1 : Int32) then (f_X5_become sz mo E ((((jlshr (mtime E) (32 : Int32))).toInt32 <<< ((16 : Int32) &&& 31)) >>> ((16 : Int32) &&& 31))) else (f_X5_become sz mo E ((jlshr (mtime E) (32 : Int32))).toInt32))) else (if ((mx E ((ms E)).toNatClampNeg) + (f_X5_immediate sz mo E)) = (33570816 : Int32) then (if (mf E) = 0 then (f_X5_become sz mo E ((((mlimit E)).toInt32 <<< ((24 : Int32) &&& 31)) >>> ((24 : Int32) &&& 31))) else (if (mf E) = (1 : Int32) then (f_X5_become sz mo E ((((mlimit E)).toInt32 <<< ((16 : Int32) &&& 31)) >>> ((16 : Int32) &&& 31))) else (f_X5_become sz mo E ((mlimit E)).toInt32))) else (if ((mx E ((ms E)).toNatClampNeg) + (f_X5_immediate sz mo E)) = (33570820 : Int32) then (if (mf E) = 0 then (f_X5_become sz mo E ((((jlshr (mlimit E) (32 : Int32))).toInt32 <<< ((24 : Int32) &&& 31)) >>> ((24 : Int32) &&& 31))) else (if (mf E) = (1 : Int32) then (f_X5_become sz mo E ((((jlshr (mlimit E) (32 : Int32))).toInt32 <<< ((16 : Int32) &&& 31)) >>> ((16 : Int32) &&& 31))) else (f_X5_become sz mo E ((jlshr (mlimit E) (32 : Int32))).toInt32))) else (if (mf E) = 0 then (f_X5_become sz mo E (((mo - (msentMany E)) <<< ((24 : Int32) &&& 31)) >>> ((24 : Int32) &&& 31))) else (if (mf E) = (1 : Int32) then (f_X5_become sz mo E (((mo - (msentMany E)) <<< ((16 : Int32) &&& 31)) >>> ((16 : Int32) &&& 31))) else (f_X5_become sz mo E (mo - (msentMany E)))))))))) else (f_X5_trap sz mo E (5 : Int32) ((mx E ((ms E)).toNatClampNeg) + (f_X5_immediate sz mo E)))) else (if (mf E) = 0 then (f_X5_become sz mo E (((f_X5_get sz mo E ((mx E ((ms E)).toNatClampNeg) + (f_X5_immediate sz mo E)) ((1 : Int32) <<< (((mf E) &&& (3 : Int32)) &&& 31))) <<< ((24 : Int32) &&& 31)) >>> ((24 : Int32) &&& 31))) else (if (mf E) = (1 : Int32) then (f_X5_become sz mo E (((f_X5_get sz mo E ((mx E ((ms E)).toNatClampNeg) + (f_X5_immediate sz mo E)) ((1 : Int32) <<< (((mf E) &&& (3 : Int32)) &&& 31))) <<< ((16 : Int32) &&& 31)) >>> ((16 : Int32) &&& 31))) else (f_X5_become sz mo E (f_X5_get sz mo E ((mx E ((ms E)).toNatClampNeg) + (f_X5_immediate sz mo E)) ((1 : Int32) <<< (((mf E) &&& (3 : Int32)) &&& 31))))))) else (f_X5_trap sz mo E (4 : Int32) ((mx E ((ms E)).toNatClampNeg) + (f_X5_immediate sz mo E)))) else (f_X5_illegal sz mo E)))
def f_X5_reckon (sz mo : Int32) (E : MS) (a1 : Int32) (a2 : Int32) : Int32 :=
  (if (mf E) = (0 : Int32) then (a1 + a2) else (if (mf E) = (1 : Int32) then (a1 <<< ((a2 &&& (31 : Int32)) &&& 31)) else (if (mf E) = (2 : Int32) then (if a2 ≤ a1 then (0 : Int32) else (1 : Int32)) else (if (mf E) = (3 : Int32) then (if (b2i (f_X5_isBelow a1 a2)) = 0 then (0 : Int32) else (1 : Int32)) else (if (mf E) = (4 : Int32) then (a1 ^^^ a2) else (if (mf E) = (5 : Int32) then (jushr a1 (a2 &&& (31 : Int32))) else (if (mf E) = (6 : Int32) then (a1 ||| a2) else (a1 &&& a2))))))))
def f_X5_reckonBy (sz mo : Int32) (E : MS) (a1 : Int32) : Int32 × MS :=
  (if (mf E) = (1 : Int32) then (if (mg E) = 0 then (f_X5_become sz mo E ((mx E ((ms E)).toNatClampNeg) <<< ((mt E) &&& 31))) else (f_X5_illegal sz mo E)) else (if (mf E) = (5 : Int32) then (if (mg E) = 0 then (f_X5_become sz mo E (jushr (mx E ((ms E)).toNatClampNeg) (mt E))) else (if (mg E) = (32 : Int32) then (f_X5_become sz mo E ((mx E ((ms E)).toNatClampNeg) >>> ((mt E) &&& 31))) else (f_X5_illegal sz mo E))) else (f_X5_become sz mo E (f_X5_reckon sz mo E (mx E ((ms E)).toNatClampNeg) a1))))
def f_X5_multiplied (sz mo : Int32) (E : MS) (a1 : Int32) (a2 : Int32) : Int32 :=
  (if (mf E) = (0 : Int32) then (a1 * a2) else (if (mf E) = (1 : Int32) then ((jlshr ((a1).toInt64 * (a2).toInt64) (32 : Int32))).toInt32 else (if (mf E) = (2 : Int32) then ((jlshr ((a1).toInt64 * ((a2).toInt64 &&& (4294967295 : Int64))) (32 : Int32))).toInt32 else (if (mf E) = (3 : Int32) then ((jlshr (((a1).toInt64 &&& (4294967295 : Int64)) * ((a2).toInt64 &&& (4294967295 : Int64))) (32 : Int32))).toInt32 else (if (mf E) = (4 : Int32) then (if a2 = 0 then (-1 : Int32) else (if a2 = (-1 : Int32) then (-a1) else (a1 / a2))) else (if (mf E) = (5 : Int32) then (if a2 = 0 then (-1 : Int32) else ((((a1).toInt64 &&& (4294967295 : Int64)) / ((a2).toInt64 &&& (4294967295 : Int64)))).toInt32) else (if (mf E) = (6 : Int32) then (if a2 = 0 then a1 else (if a2 = (-1 : Int32) then (0 : Int32) else (a1 - a1 / a2 * a2))) else (if a2 = 0 then a1 else ((((a1).toInt64 &&& (4294967295 : Int64)) - ((a1).toInt64 &&& (4294967295 : Int64)) / ((a2).toInt64 &&& (4294967295 : Int64)) * ((a2).toInt64 &&& (4294967295 : Int64)))).toInt32))))))))
def f_X5_reckonTwo (sz mo : Int32) (E : MS) : Int32 × MS :=
  (if (mg E) = (1 : Int32) then (f_X5_become sz mo E (f_X5_multiplied sz mo E (mx E ((ms E)).toNatClampNeg) (mx E ((mt E)).toNatClampNeg))) else (if (mg E) = 0 then (f_X5_become sz mo E (f_X5_reckon sz mo E (mx E ((ms E)).toNatClampNeg) (mx E ((mt E)).toNatClampNeg))) else (if (mg E) = (32 : Int32) then (if (mf E) = 0 then (f_X5_become sz mo E ((mx E ((ms E)).toNatClampNeg) - (mx E ((mt E)).toNatClampNeg))) else (if (mf E) = (5 : Int32) then (f_X5_become sz mo E ((mx E ((ms E)).toNatClampNeg) >>> (((mx E ((mt E)).toNatClampNeg) &&& (31 : Int32)) &&& 31))) else (f_X5_illegal sz mo E))) else (f_X5_illegal sz mo E))))
def f_X5_mixed (a1 : Int64) (a2 : Bool) (a3 : Int32) : Int64 :=
  (if (b2i a2) = 0 then ((jlshl (jlshr a1 (32 : Int32)) (32 : Int32)) ||| ((a3).toInt64 &&& (4294967295 : Int64))) else ((jlshl (a3).toInt64 (32 : Int32)) ||| (a1 &&& (4294967295 : Int64))))
def f_X5_store (sz mo : Int32) (E : MS) : Int32 × MS :=
  (if (mf E) ≤ (2 : Int32) then (if (((mx E ((ms E)).toNatClampNeg) + ((((mword E) >>> ((25 : Int32) &&& 31)) <<< ((5 : Int32) &&& 31)) ||| (md E))) &&& (((1 : Int32) <<< ((mf E) &&& 31)) - (1 : Int32))) = 0 then (if (b2i (f_X5_isThere sz mo E ((mx E ((ms E)).toNatClampNeg) + ((((mword E) >>> ((25 : Int32) &&& 31)) <<< ((5 : Int32) &&& 31)) ||| (md E))) ((1 : Int32) <<< ((mf E) &&& 31)))) = 0 then (if ((mx E ((ms E)).toNatClampNeg) + ((((mword E) >>> ((25 : Int32) &&& 31)) <<< ((5 : Int32) &&& 31)) ||| (md E))) = (268435456 : Int32) then (if (msentMany E) = mo then ((4 : Int32), E) else ((-1 : Int32), (msentMany_ (msent_ E (upd (msent E) ((msentMany E)).toNatClampNeg ((mx E ((mt E)).toNatClampNeg) &&& (255 : Int32)))) ((msentMany E) + (1 : Int32))))) else (if ((1 : Int32) <<< ((mf E) &&& 31)) = (4 : Int32) then (if (b2i (f_X5_isClock ((mx E ((ms E)).toNatClampNeg) + ((((mword E) >>> ((25 : Int32) &&& 31)) <<< ((5 : Int32) &&& 31)) ||| (md E))))) = 0 then (f_X5_trap sz mo E (7 : Int32) ((mx E ((ms E)).toNatClampNeg) + ((((mword E) >>> ((25 : Int32) &&& 31)) <<< ((5 : Int32) &&& 31)) ||| (md E)))) else (if ((mx E ((ms E)).toNatClampNeg) + ((((mword E) >>> ((25 : Int32) &&& 31)) <<< ((5 : Int32) &&& 31)) ||| (md E))) = (33603580 : Int32) then (if ((mx E ((ms E)).toNatClampNeg) + ((((mword E) >>> ((25 : Int32) &&& 31)) <<< ((5 : Int32) &&& 31)) ||| (md E))) = (33603576 : Int32) then ((-1 : Int32), (mtime_ E (f_X5_mixed (mtime E) true (mx E ((mt E)).toNatClampNeg)))) else ((-1 : Int32), (mtime_ E (f_X5_mixed (mtime E) true (mx E ((mt E)).toNatClampNeg))))) else (if ((mx E ((ms E)).toNatClampNeg) + ((((mword E) >>> ((25 : Int32) &&& 31)) <<< ((5 : Int32) &&& 31)) ||| (md E))) = (33570820 : Int32) then (if ((mx E ((ms E)).toNatClampNeg) + ((((mword E) >>> ((25 : Int32) &&& 31)) <<< ((5 : Int32) &&& 31)) ||| (md E))) = (33603576 : Int32) then ((-1 : Int32), (mtime_ E (f_X5_mixed (mtime E) true (mx E ((mt E)).toNatClampNeg)))) else ((-1 : Int32), (mlimit_ E (f_X5_mixed (mlimit E) true (mx E ((mt E)).toNatClampNeg))))) else (if ((mx E ((ms E)).toNatClampNeg) + ((((mword E) >>> ((25 : Int32) &&& 31)) <<< ((5 : Int32) &&& 31)) ||| (md E))) = (33603576 : Int32) then ((-1 : Int32), (mtime_ E (f_X5_mixed (mtime E) false (mx E ((mt E)).toNatClampNeg)))) else ((-1 : Int32), (mlimit_ E (f_X5_mixed (mlimit E) false (mx E ((mt E)).toNatClampNeg)))))))) else (f_X5_trap sz mo E (7 : Int32) ((mx E ((ms E)).toNatClampNeg) + ((((mword E) >>> ((25 : Int32) &&& 31)) <<< ((5 : Int32) &&& 31)) ||| (md E)))))) else ((-1 : Int32), (f_X5_put sz mo E ((mx E ((ms E)).toNatClampNeg) + ((((mword E) >>> ((25 : Int32) &&& 31)) <<< ((5 : Int32) &&& 31)) ||| (md E))) ((1 : Int32) <<< ((mf E) &&& 31)) (mx E ((mt E)).toNatClampNeg)))) else (f_X5_trap sz mo E (6 : Int32) ((mx E ((ms E)).toNatClampNeg) + ((((mword E) >>> ((25 : Int32) &&& 31)) <<< ((5 : Int32) &&& 31)) ||| (md E))))) else (f_X5_illegal sz mo E))
def f_X5_system (sz mo : Int32) (E : MS) : Int32 × MS :=
  (if (mword E) = (115 : Int32) then (f_X5_trap sz mo E (11 : Int32) (0 : Int32)) else (if (mword E) = (1048691 : Int32) then (f_X5_trap sz mo E (3 : Int32) (mpc E)) else (if (mword E) = (273678451 : Int32) then ((-1 : Int32), (mwaits_ E true)) else (if (mword E) = (807403635 : Int32) then ((-1 : Int32), (mmpie_ (mmie_ (mnext_ E (mmepc E)) (mmpie E)) true)) else (f_X5_illegal sz mo E)))))
def f_X5_work (sz mo : Int32) (E : MS) : Int32 × MS :=
  (if ((mword E) &&& (127 : Int32)) = (3 : Int32) then (f_X5_read sz mo E) else (if ((mword E) &&& (127 : Int32)) = (15 : Int32) then (if (mf E) = 0 then ((-1 : Int32), E) else (f_X5_illegal sz mo E)) else (if ((mword E) &&& (127 : Int32)) = (19 : Int32) then (f_X5_reckonBy sz mo E (f_X5_immediate sz mo E)) else (if ((mword E) &&& (127 : Int32)) = (23 : Int32) then (f_X5_become sz mo E ((mpc E) + ((mword E) &&& (-4096 : Int32)))) else (if ((mword E) &&& (127 : Int32)) = (35 : Int32) then (f_X5_store sz mo E) else (if ((mword E) &&& (127 : Int32)) = (51 : Int32) then (f_X5_reckonTwo sz mo E) else (if ((mword E) &&& (127 : Int32)) = (55 : Int32) then (f_X5_become sz mo E ((mword E) &&& (-4096 : Int32))) else (if ((mword E) &&& (127 : Int32)) = (99 : Int32) then (f_X5_branch sz mo E) else (if ((mword E) &&& (127 : Int32)) = (103 : Int32) then (if (mf E) = 0 then (f_X5_goTo sz mo E (((mx E ((ms E)).toNatClampNeg) + (f_X5_immediate sz mo E)) &&& (-2 : Int32)) true) else (f_X5_illegal sz mo E)) else (if ((mword E) &&& (127 : Int32)) = (111 : Int32) then (f_X5_goTo sz mo E ((mpc E) + ((((((mword E) >>> ((31 : Int32) &&& 31)) <<< ((20 : Int32) &&& 31)) ||| ((mword E) &&& (1044480 : Int32))) ||| ((((mword E) >>> ((20 : Int32) &&& 31)) &&& (1 : Int32)) <<< ((11 : Int32) &&& 31))) ||| ((((mword E) >>> ((21 : Int32) &&& 31)) &&& (1023 : Int32)) <<< ((1 : Int32) &&& 31)))) true) else (if ((mword E) &&& (127 : Int32)) = (115 : Int32) then (if (mf E) = 0 then (f_X5_system sz mo E) else (f_X5_control sz mo E)) else (f_X5_illegal sz mo E))))))))))))
def f_X5_instruction (sz mo : Int32) (E : MS) : Int32 × MS :=
  (if (b2i (f_X5_isThere sz mo E (mpc E) (4 : Int32))) = 0 then (f_X5_trap sz mo E (1 : Int32) (mpc E)) else (if (f_X5_work sz mo (mnext_ (mg_ (mt_ (ms_ (mf_ (md_ (mword_ E (f_X5_get sz mo E (mpc E) (4 : Int32))) (((f_X5_get sz mo E (mpc E) (4 : Int32)) >>> ((7 : Int32) &&& 31)) &&& (31 : Int32))) (((f_X5_get sz mo E (mpc E) (4 : Int32)) >>> ((12 : Int32) &&& 31)) &&& (7 : Int32))) (((f_X5_get sz mo E (mpc E) (4 : Int32)) >>> ((15 : Int32) &&& 31)) &&& (31 : Int32))) (((f_X5_get sz mo E (mpc E) (4 : Int32)) >>> ((20 : Int32) &&& 31)) &&& (31 : Int32))) (((f_X5_get sz mo E (mpc E) (4 : Int32)) >>> ((25 : Int32) &&& 31)) &&& (127 : Int32))) ((mpc E) + (4 : Int32)))).1 = (-1 : Int32) then ((0 : Int32), (mpc_ (f_X5_work sz mo (mnext_ (mg_ (mt_ (ms_ (mf_ (md_ (mword_ E (f_X5_get sz mo E (mpc E) (4 : Int32))) (((f_X5_get sz mo E (mpc E) (4 : Int32)) >>> ((7 : Int32) &&& 31)) &&& (31 : Int32))) (((f_X5_get sz mo E (mpc E) (4 : Int32)) >>> ((12 : Int32) &&& 31)) &&& (7 : Int32))) (((f_X5_get sz mo E (mpc E) (4 : Int32)) >>> ((15 : Int32) &&& 31)) &&& (31 : Int32))) (((f_X5_get sz mo E (mpc E) (4 : Int32)) >>> ((20 : Int32) &&& 31)) &&& (31 : Int32))) (((f_X5_get sz mo E (mpc E) (4 : Int32)) >>> ((25 : Int32) &&& 31)) &&& (127 : Int32))) ((mpc E) + (4 : Int32)))).2 (mnext (f_X5_work sz mo (mnext_ (mg_ (mt_ (ms_ (mf_ (md_ (mword_ E (f_X5_get sz mo E (mpc E) (4 : Int32))) (((f_X5_get sz mo E (mpc E) (4 : Int32)) >>> ((7 : Int32) &&& 31)) &&& (31 : Int32))) (((f_X5_get sz mo E (mpc E) (4 : Int32)) >>> ((12 : Int32) &&& 31)) &&& (7 : Int32))) (((f_X5_get sz mo E (mpc E) (4 : Int32)) >>> ((15 : Int32) &&& 31)) &&& (31 : Int32))) (((f_X5_get sz mo E (mpc E) (4 : Int32)) >>> ((20 : Int32) &&& 31)) &&& (31 : Int32))) (((f_X5_get sz mo E (mpc E) (4 : Int32)) >>> ((25 : Int32) &&& 31)) &&& (127 : Int32))) ((mpc E) + (4 : Int32)))).2))) else (f_X5_work sz mo (mnext_ (mg_ (mt_ (ms_ (mf_ (md_ (mword_ E (f_X5_get sz mo E (mpc E) (4 : Int32))) (((f_X5_get sz mo E (mpc E) (4 : Int32)) >>> ((7 : Int32) &&& 31)) &&& (31 : Int32))) (((f_X5_get sz mo E (mpc E) (4 : Int32)) >>> ((12 : Int32) &&& 31)) &&& (7 : Int32))) (((f_X5_get sz mo E (mpc E) (4 : Int32)) >>> ((15 : Int32) &&& 31)) &&& (31 : Int32))) (((f_X5_get sz mo E (mpc E) (4 : Int32)) >>> ((20 : Int32) &&& 31)) &&& (31 : Int32))) (((f_X5_get sz mo E (mpc E) (4 : Int32)) >>> ((25 : Int32) &&& 31)) &&& (127 : Int32))) ((mpc E) + (4 : Int32))))))
def f_X5_once (sz mo : Int32) (E : MS) : Int32 × MS :=
  (if (((f_X5_csr sz mo E (836 : Int32)) &&& (mmieBits E)) &&& (128 : Int32)) = 0 then (if (b2i (mwaits E)) = 0 then (if (f_X5_instruction sz mo (mwaits_ E false)).1 = (4 : Int32) then ((f_X5_instruction sz mo (mwaits_ E false)).1, (mwaits_ (f_X5_instruction sz mo (mwaits_ E false)).2 (mwaits E))) else ((f_X5_instruction sz mo (mwaits_ E false)).1, (mwaits_ (f_X5_instruction sz mo (mwaits_ E false)).2 (mwaits (f_X5_instruction sz mo (mwaits_ E false)).2)))) else (if ((f_X5_csr sz mo E (836 : Int32)) &&& (mmieBits E)) = 0 then ((3 : Int32), E) else (if (f_X5_instruction sz mo (mwaits_ E false)).1 = (4 : Int32) then ((f_X5_instruction sz mo (mwaits_ E false)).1, (mwaits_ (f_X5_instruction sz mo (mwaits_ E false)).2 (mwaits E))) else ((f_X5_instruction sz mo (mwaits_ E false)).1, (mwaits_ (f_X5_instruction sz mo (mwaits_ E false)).2 (mwaits (f_X5_instruction sz mo (mwaits_ E false)).2)))))) else (if (b2i (mmie E)) = 0 then (if (b2i (mwaits E)) = 0 then (if (f_X5_instruction sz mo (mwaits_ E false)).1 = (4 : Int32) then ((f_X5_instruction sz mo (mwaits_ E false)).1, (mwaits_ (f_X5_instruction sz mo (mwaits_ E false)).2 (mwaits E))) else ((f_X5_instruction sz mo (mwaits_ E false)).1, (mwaits_ (f_X5_instruction sz mo (mwaits_ E false)).2 (mwaits (f_X5_instruction sz mo (mwaits_ E false)).2)))) else (if ((f_X5_csr sz mo E (836 : Int32)) &&& (mmieBits E)) = 0 then ((3 : Int32), E) else (if (f_X5_instruction sz mo (mwaits_ E false)).1 = (4 : Int32) then ((f_X5_instruction sz mo (mwaits_ E false)).1, (mwaits_ (f_X5_instruction sz mo (mwaits_ E false)).2 (mwaits E))) else ((f_X5_instruction sz mo (mwaits_ E false)).1, (mwaits_ (f_X5_instruction sz mo (mwaits_ E false)).2 (mwaits (f_X5_instruction sz mo (mwaits_ E false)).2)))))) else (if ((mmtvec (f_X5_trap sz mo E (-2147483641 : Int32) (0 : Int32)).2) &&& (1 : Int32)) = (1 : Int32) then (if (f_X5_trap sz mo E (-2147483641 : Int32) (0 : Int32)).1 = (1 : Int32) then ((2 : Int32), (mwaits_ (mpc_ (f_X5_trap sz mo E (-2147483641 : Int32) (0 : Int32)).2 ((mpc (f_X5_trap sz mo E (-2147483641 : Int32) (0 : Int32)).2) + (28 : Int32))) false)) else ((f_X5_trap sz mo E (-2147483641 : Int32) (0 : Int32)).1, (mwaits_ (mpc_ (f_X5_trap sz mo E (-2147483641 : Int32) (0 : Int32)).2 ((mpc (f_X5_trap sz mo E (-2147483641 : Int32) (0 : Int32)).2) + (28 : Int32))) false))) else (if (f_X5_trap sz mo E (-2147483641 : Int32) (0 : Int32)).1 = (1 : Int32) then ((2 : Int32), (mwaits_ (mpc_ (f_X5_trap sz mo E (-2147483641 : Int32) (0 : Int32)).2 (mpc (f_X5_trap sz mo E (-2147483641 : Int32) (0 : Int32)).2)) false)) else ((f_X5_trap sz mo E (-2147483641 : Int32) (0 : Int32)).1, (mwaits_ (mpc_ (f_X5_trap sz mo E (-2147483641 : Int32) (0 : Int32)).2 (mpc (f_X5_trap sz mo E (-2147483641 : Int32) (0 : Int32)).2)) false))))))
def f_X5_step (sz mo : Int32) (E : MS) : Int32 × MS :=
  (if (f_X5_once sz mo E).1 = 0 then ((f_X5_once sz mo E).1, (mretired_ (mlatest_ (f_X5_once sz mo E).2 (f_X5_once sz mo E).1) ((mretired (f_X5_once sz mo E).2) + (1 : Int64)))) else ((f_X5_once sz mo E).1, (mretired_ (mlatest_ (f_X5_once sz mo E).2 (f_X5_once sz mo E).1) (mretired (f_X5_once sz mo E).2))))
def f_X5_tick (sz mo : Int32) (E : MS) : MS :=
  (mtime_ E ((mtime E) + (1 : Int64)))
def f_X5_told (sz mo : Int32) (E : MS) (a1 : Int32) : Int64 :=
  (if a1 = (0 : Int32) then (mtime E) else (if a1 = (1 : Int32) then (mlimit E) else (if a1 = (2 : Int32) then (mretired E) else (if a1 = (3 : Int32) then (if (b2i (mwaits E)) = 0 then (0 : Int64) else (1 : Int64)) else (if a1 = (4 : Int32) then ((mlatest E)).toInt64 else (0 : Int64))))))
end
section
/-! what the contracts ask of numbers: places within their rows, divisors that aren't 0 -/
theorem shr2 (a : Int32) : (a >>> ((2 : Int32) &&& 31)).toInt = a.toInt / 4 := by
  rw [pk_shr a _ 2 (by decide), Int.shiftRight_eq_div_pow]
  rfl
theorem ltz (a : Int32) : a < 0 ↔ a.toInt < 0 := by rw [Int32.lt_iff_toInt_lt, Int32.toInt_zero]
theorem add_sm {a k : Int32} (h0 : 0 ≤ a.toInt) (h1 : a.toInt < 2 ^ 30) (h2 : 0 ≤ k.toInt) (h3 : k.toInt < 2 ^ 30) : (a + k).toInt = a.toInt + k.toInt := by
  rw [Int32.toInt_add, Int.bmod_eq_of_le (by omega) (by omega)]
theorem holds_iff {nW nB : Nat} (hk : KOk nW nB) {E : KS} {a : Int32} : f_X1_holds nW nB E a = true ↔ 0 ≤ a.toInt ∧ a.toInt / 4 < nW := by
  have h1 := ltz a
  have h2 : nI nW ≤ (a >>> ((2 : Int32) &&& 31)) ↔ (nW : Int) ≤ a.toInt / 4 := by rw [Int32.le_iff_toInt_le, shr2, nI_toInt (by omega)]
  unfold f_X1_holds
  by_cases c1 : a < 0
  · rw [if_pos c1]
    have := h1.mp c1
    exact ⟨fun h => (by cases h), fun h => (by omega)⟩
  · rw [if_neg c1]
    by_cases c2 : nI nW ≤ (a >>> ((2 : Int32) &&& 31))
    · rw [if_pos c2]
      have := h2.mp c2
      exact ⟨fun h => (by cases h), fun h => (by omega)⟩
    · rw [if_neg c2]
      rw [h1] at c1
      rw [h2] at c2
      exact ⟨fun _ => ⟨by omega, by omega⟩, fun _ => rfl⟩
theorem in_of_holds {nW nB : Nat} (hk : KOk nW nB) {E : KS} {a : Int32} (h : ¬ (b2i (f_X1_holds nW nB E a)) = 0) : vp_in (a >>> ((2 : Int32) &&& 31)) nW := by
  have h1 := (holds_iff hk).mp (b2i_n0.mp h)
  rw [vp_in_iff, shr2]
  omega
theorem in_of_load {nW nB : Nat} (hk : KOk nW nB) {E : KS} {a k : Int32} (h : ¬ (b2i (f_X1_holds nW nB E a)) = 0) (h3 : ¬ (b2i (f_X1_holds nW nB E (a + (3 : Int32)))) = 0) (k0 : 0 ≤ k.toInt) (k3 : k.toInt ≤ 3) : vp_in ((a + k) >>> ((2 : Int32) &&& 31)) nW := by
  have h1 := (holds_iff hk).mp (b2i_n0.mp h)
  have h2 := (holds_iff hk).mp (b2i_n0.mp h3)
  rw [add_sm (by omega) (by omega) (by decide) (by decide), show (3 : Int32).toInt = 3 from by decide] at h2
  rw [vp_in_iff, shr2, add_sm (by omega) (by omega) (by omega) (by omega)]
  omega
theorem in_of_lt {i : Int32} {n : Nat} (h0 : ¬ i < 0) (h : i < nI n) (hn : n ≤ 4096) : vp_in i n := by
  rw [Int32.lt_iff_toInt_lt, nI_toInt (by omega)] at h
  rw [ltz] at h0
  rw [vp_in_iff]
  omega
theorem in_of_nle {i : Int32} {n : Nat} (h0 : ¬ i < 0) (h : ¬ nI n ≤ i) (hn : n ≤ 4096) : vp_in i n := by
  rw [Int32.le_iff_toInt_le, nI_toInt (by omega)] at h
  rw [ltz] at h0
  rw [vp_in_iff]
  omega
theorem i2l_ne {a : Int32} (h : ¬ a = 0) : ¬ a.toInt64 = 0 := by
  intro q
  apply h
  have h1 : a.toInt64.toInt = (0 : Int64).toInt := by rw [q]
  rw [Int32.toInt_toInt64] at h1
  exact Int32.toInt_inj.mp h1
theorem uns_nat (a : Int32) : (a.toInt64 &&& (4294967295 : Int64)).toBitVec.toNat = a.toBitVec.toNat := by
  have h : (a.toInt64 &&& (4294967295 : Int64)).toBitVec = a.toBitVec.setWidth 64 := by
    apply BitVec.eq_of_getLsbD_eq
    intro i hi
    have e1 : (a.toInt64 &&& (4294967295 : Int64)).toBitVec = a.toBitVec.signExtend 64 &&& (4294967295#64) := rfl
    rw [e1, BitVec.getLsbD_and, BitVec.getLsbD_signExtend, BitVec.getLsbD_setWidth]
    by_cases h2 : i < 32
    · rw [if_pos h2]
      have : (4294967295#64).getLsbD i = true := by
        have := (by decide +kernel : ∀ j : Fin 32, (4294967295#64).getLsbD j.val = true) ⟨i, h2⟩
        exact this
      rw [this]
      simp [hi]
    · have h3 : (4294967295#64).getLsbD i = false := by
        have := (by decide +kernel : ∀ j : Fin 64, 32 ≤ j.val → (4294967295#64).getLsbD j.val = false) ⟨i, hi⟩ (by show 32 ≤ i; omega)
        exact this
      rw [h3, BitVec.getLsbD_of_ge _ _ (by omega)]
      simp
  rw [h, BitVec.toNat_setWidth]
  exact Nat.mod_eq_of_lt (by have := a.toBitVec.isLt; omega)
theorem msk_ne {a : Int32} (h : ¬ a = 0) : ¬ (a.toInt64 &&& (4294967295 : Int64)) = 0 := by
  intro q
  apply h
  have h1 := uns_nat a
  rw [q] at h1
  have h2 : a.toBitVec = 0#32 := BitVec.eq_of_toNat_eq (by rw [← h1]; rfl)
  exact Int32.toBitVec_inj.mp h2
theorem uns_ne {a : Int32} (h : ¬ a = 0) : ¬ f_X4_unsigned a = 0 := msk_ne h
theorem there_iff {sz mo : Int32} (hk : MOk sz mo) {E : MS} {a b : Int32} (hb : 0 ≤ b.toInt ∧ b.toInt ≤ 4) : f_X5_isThere sz mo E a b = true ↔ 0 ≤ a.toInt ∧ a.toInt + b.toInt ≤ sz.toInt := by
  have h1 := ltz a
  have hsb : (sz - b).toInt = sz.toInt - b.toInt := by
    rw [Int32.toInt_sub, Int.bmod_eq_of_le (by omega) (by omega)]
  have h2 : a ≤ sz - b ↔ a.toInt + b.toInt ≤ sz.toInt := by
    rw [Int32.le_iff_toInt_le, hsb]
    omega
  have h3 : sz - b < a ↔ ¬ a.toInt + b.toInt ≤ sz.toInt := by
    rw [Int32.lt_iff_toInt_lt, hsb]
    omega
  unfold f_X5_isThere
  by_cases c1 : a < 0
  · rw [if_pos c1]
    have := h1.mp c1
    exact ⟨fun h => (by cases h), fun h => (by omega)⟩
  · rw [if_neg c1]
    by_cases c2 : a ≤ sz - b
    · have c3 : ¬ sz - b < a := fun h => (h3.mp h) (h2.mp c2)
      first | rw [if_pos c2] | rw [if_neg c3]
      rw [h1] at c1
      exact ⟨fun _ => ⟨by omega, h2.mp c2⟩, fun _ => rfl⟩
    · have c3 : sz - b < a := h3.mpr (fun h => c2 (h2.mpr h))
      first | rw [if_neg c2] | rw [if_pos c3]
      exact ⟨fun h => (by cases h), fun h => absurd (h2.mpr h.2) c2⟩
theorem in_of_there {sz mo : Int32} (hk : MOk sz mo) {E : MS} {a b k : Int32} (h : ¬ (b2i (f_X5_isThere sz mo E a b)) = 0) (hb : (0 ≤ b.toInt ∧ b.toInt ≤ 4) ∧ 0 ≤ k.toInt) (hkb : k.toInt < b.toInt) : vp_in (a + k) 65536 := by
  have h1 := (there_iff hk hb.1).mp (b2i_n0.mp h)
  rw [vp_in_iff, add_sm (by omega) (by omega) (by omega) (by omega)]
  omega
theorem in_of_there0 {sz mo : Int32} (hk : MOk sz mo) {E : MS} {a : Int32} (h : ¬ (b2i (f_X5_isThere sz mo E a (1 : Int32))) = 0) : vp_in a 65536 := by
  have h1 := (there_iff hk (by decide)).mp (b2i_n0.mp h)
  rw [show (1 : Int32).toInt = 1 from by decide] at h1
  rw [vp_in_iff]
  omega
theorem rd_b {f : Int32} (h : vp_in f 8) (h3 : ¬ f = (3 : Int32)) (h5 : f ≤ (5 : Int32)) : ((1 : Int32) <<< ((f &&& (3 : Int32)) &&& 31)) = (1 : Int32) ∨ ((1 : Int32) <<< ((f &&& (3 : Int32)) &&& 31)) = (2 : Int32) ∨ ((1 : Int32) <<< ((f &&& (3 : Int32)) &&& 31)) = (4 : Int32) := by
  obtain ⟨j, hj, rfl⟩ := vp_in_of h (by decide)
  exact (by decide +kernel : ∀ j : Fin 8, ¬ nI j.val = (3 : Int32) → nI j.val ≤ (5 : Int32) → ((1 : Int32) <<< ((nI j.val &&& (3 : Int32)) &&& 31)) = (1 : Int32) ∨ ((1 : Int32) <<< ((nI j.val &&& (3 : Int32)) &&& 31)) = (2 : Int32) ∨ ((1 : Int32) <<< ((nI j.val &&& (3 : Int32)) &&& 31)) = (4 : Int32)) ⟨j, hj⟩ h3 h5
theorem st_b {f : Int32} (h : vp_in f 8) (h2 : f ≤ (2 : Int32)) : ((1 : Int32) <<< (f &&& 31)) = (1 : Int32) ∨ ((1 : Int32) <<< (f &&& 31)) = (2 : Int32) ∨ ((1 : Int32) <<< (f &&& 31)) = (4 : Int32) := by
  obtain ⟨j, hj, rfl⟩ := vp_in_of h (by decide)
  exact (by decide +kernel : ∀ j : Fin 8, nI j.val ≤ (2 : Int32) → ((1 : Int32) <<< (nI j.val &&& 31)) = (1 : Int32) ∨ ((1 : Int32) <<< (nI j.val &&& 31)) = (2 : Int32) ∨ ((1 : Int32) <<< (nI j.val &&& 31)) = (4 : Int32)) ⟨j, hj⟩ h2
theorem in_of_snt {sz mo : Int32} (hk : MOk sz mo) {E : MS} (hs : mSnt mo E) (h : ¬ (msentMany E) = mo) : vp_in (msentMany E) 4096 := by
  have : (msentMany E).toInt ≠ mo.toInt := fun q => h (Int32.toInt_inj.mp q)
  rw [vp_in_iff]
  omega
theorem in_of_out {sz mo : Int32} (hk : MOk sz mo) {E : MS} (hs : mSnt mo E) {i : Int32} (h0 : ¬ i < 0) (h : ¬ (msentMany E) ≤ i) : vp_in i 4096 := by
  rw [Int32.le_iff_toInt_le] at h
  rw [ltz] at h0
  rw [vp_in_iff]
  omega
theorem md_setCsr' {sz mo : Int32} {E : MS} {n v : Int32} : md (f_X5_setCsr sz mo E n v) = md E := by
  unfold f_X5_setCsr
  repeat' split
  all_goals rfl
theorem md_setCsr {sz mo : Int32} {E : MS} {n v : Int32} (h : vp_in (md E) 32) : vp_in (md (f_X5_setCsr sz mo E n v)) 32 := by
  rw [md_setCsr']
  exact h
end
section
/-! contracts: J13_compare_74951 J13_compareUnsigned_74951 J6_compare_7cf53 J6_compareUnsigned_7cf53 X0_get X0_lists X3_isDue X4_csr X0_restart X2_restart X3_restart X1_holds X1_mask X1_shift X1_put X4_load X2_byteAt X4_out X4_outSize X4_pc X1_get X4_peek X4_poke -/
set_option maxHeartbeats 4000000 in
set_option maxRecDepth 100000 in
theorem c_J13_compare_74951 (l : Launch) (D : va_G) (tys : List (ClassId × FieldType)) (ws : va_W) (a1 : Int64) (a2 : Int64) : Mt l yJ13_compare_74951 cJ13_compare_74951 4 (some .int) 0 D tys [.long a1, .long a2] ws (QcI D ws ws (f_J13_compare_74951 a1 a2)) := by
  refine ent (own := RJ13) rfl (by decide) (Nat.le_of_ble_eq_true rfl) ?_
  intro p e s m below meth c A ls X hr hlk hmn hAe hA hP hD hS hl
  have hx := X.1.1
  have hb := X.1.2.1
  have hl : lv_has ls 4 [(0, .long a1), (2, .long a2)] := hl
  refine lv_lload_n hx hb dJ13_compare_74951_0 rfl (lv_at hl 0 rfl) ?_
  refine lv_lload_n hx hb dJ13_compare_74951_1 rfl (lv_at hl 1 rfl) ?_
  refine W.lcmp hx hb dJ13_compare_74951_2 ?_
  refine lv_if_ge (tgt := 10) hx hb dJ13_compare_74951_3 (by decide) (fun c_1 => ?_) (fun c_1 => ?_)
  ·
    refine lv_lload_n hx hb dJ13_compare_74951_10 rfl (lv_at hl 0 rfl) ?_
    refine lv_lload_n hx hb dJ13_compare_74951_11 rfl (lv_at hl 1 rfl) ?_
    refine W.lcmp hx hb dJ13_compare_74951_12 ?_
    refine lv_if_ne (tgt := 20) hx hb dJ13_compare_74951_13 (by decide) (fun c_2 => ?_) (fun c_2 => ?_)
    ·
      refine lv_iconst (v := (1 : Int32)) hx hb dJ13_compare_74951_20 (by decide) ?_
      exact rg_i (v := (1 : Int32)) (F := (f_J13_compare_74951 a1 a2)) (by unfold f_J13_compare_74951; rw [if_pos c_1, if_neg c_2]; try rfl) X hP hD hS hAe hr hlk dJ13_compare_74951_21
    ·
      refine lv_iconst (v := (0 : Int32)) hx hb dJ13_compare_74951_16 (by decide) ?_
      refine lv_goto (tgt := 21) hx hb dJ13_compare_74951_17 (by decide) ?_
      exact rg_i (v := (0 : Int32)) (F := (f_J13_compare_74951 a1 a2)) (by unfold f_J13_compare_74951; rw [if_pos c_1, if_pos c_2]; try rfl) X hP hD hS hAe hr hlk dJ13_compare_74951_21
  ·
    refine lv_iconst (v := (-1 : Int32)) hx hb dJ13_compare_74951_6 (by decide) ?_
    refine lv_goto (tgt := 21) hx hb dJ13_compare_74951_7 (by decide) ?_
    exact rg_i (v := (-1 : Int32)) (F := (f_J13_compare_74951 a1 a2)) (by unfold f_J13_compare_74951; rw [if_neg c_1]; try rfl) X hP hD hS hAe hr hlk dJ13_compare_74951_21
set_option maxHeartbeats 4000000 in
set_option maxRecDepth 100000 in
theorem c_J13_compareUnsigned_74951 (l : Launch) (D : va_G) (tys : List (ClassId × FieldType)) (ws : va_W) (a1 : Int64) (a2 : Int64) : Mt l yJ13_compareUnsigned_74951 cJ13_compareUnsigned_74951 4 (some .int) 1 D tys [.long a1, .long a2] ws (QcI D ws ws (f_J13_compareUnsigned_74951 a1 a2)) := by
  refine ent (own := RJ13) rfl (by decide) (Nat.le_of_ble_eq_true rfl) ?_
  intro p e s m below meth c A ls X hr hlk hmn hAe hA hP hD hS hl
  have hx := X.1.1
  have hb := X.1.2.1
  have hl : lv_has ls 4 [(0, .long a1), (2, .long a2)] := hl
  refine lv_lload_n hx hb dJ13_compareUnsigned_74951_0 rfl (lv_at hl 0 rfl) ?_
  refine lv_ldc2 (v := (-9223372036854775808 : Int64)) hx hb X.1.2.2.2.1 (X.1.2.2.2.2 _ wd_232) dJ13_compareUnsigned_74951_1 ?_
  refine lv_ladd hx hb dJ13_compareUnsigned_74951_4 ?_
  refine lv_lload_n hx hb dJ13_compareUnsigned_74951_5 rfl (lv_at hl 1 rfl) ?_
  refine lv_ldc2 (v := (-9223372036854775808 : Int64)) hx hb X.1.2.2.2.1 (X.1.2.2.2.2 _ wd_232) dJ13_compareUnsigned_74951_6 ?_
  refine lv_ladd hx hb dJ13_compareUnsigned_74951_9 ?_
  refine go_i (rn_S X (c_J13_compare_74951 l D _ _ (a1 + (-9223372036854775808 : Int64)) (a2 + (-9223372036854775808 : Int64))) ok_J13_compare_74951 wd_233 ⟨by decide, by decide⟩ hP hD rfl hl.1 rfl (Nat.le_of_ble_eq_true rfl) dJ13_compareUnsigned_74951_10 ⟨Nat.zero_le _, Nat.zero_le _⟩) hP hD hS hA (fun H locs hP hD hS => ?_)
  exact rg_i (v := (f_J13_compare_74951 (a1 + (-9223372036854775808 : Int64)) (a2 + (-9223372036854775808 : Int64)))) (F := (f_J13_compareUnsigned_74951 a1 a2)) rfl X hP hD hS hAe hr hlk dJ13_compareUnsigned_74951_13
set_option maxHeartbeats 4000000 in
set_option maxRecDepth 100000 in
theorem c_J6_compare_7cf53 (l : Launch) (D : va_G) (tys : List (ClassId × FieldType)) (ws : va_W) (a1 : Int32) (a2 : Int32) : Mt l yJ6_compare_7cf53 cJ6_compare_7cf53 2 (some .int) 0 D tys [.int a1, .int a2] ws (QcI D ws ws (f_J6_compare_7cf53 a1 a2)) := by
  refine ent (own := RJ6) rfl (by decide) (Nat.le_of_ble_eq_true rfl) ?_
  intro p e s m below meth c A ls X hr hlk hmn hAe hA hP hD hS hl
  have hx := X.1.1
  have hb := X.1.2.1
  have hl : lv_has ls 2 [(0, .int a1), (1, .int a2)] := hl
  refine lv_iload_n hx hb dJ6_compare_7cf53_0 rfl (lv_at hl 0 rfl) ?_
  refine lv_iload_n hx hb dJ6_compare_7cf53_1 rfl (lv_at hl 1 rfl) ?_
  refine lv_icmp_ge (tgt := 9) hx hb dJ6_compare_7cf53_2 (by decide) (fun c_1 => ?_) (fun c_1 => ?_)
  ·
    refine lv_iload_n hx hb dJ6_compare_7cf53_9 rfl (lv_at hl 0 rfl) ?_
    refine lv_iload_n hx hb dJ6_compare_7cf53_10 rfl (lv_at hl 1 rfl) ?_
    refine lv_icmp_ne (tgt := 18) hx hb dJ6_compare_7cf53_11 (by decide) (fun c_2 => ?_) (fun c_2 => ?_)
    ·
      refine lv_iconst (v := (1 : Int32)) hx hb dJ6_compare_7cf53_18 (by decide) ?_
      exact rg_i (v := (1 : Int32)) (F := (f_J6_compare_7cf53 a1 a2)) (by unfold f_J6_compare_7cf53; rw [if_pos c_1, if_neg c_2]; try rfl) X hP hD hS hAe hr hlk dJ6_compare_7cf53_19
    ·
      refine lv_iconst (v := (0 : Int32)) hx hb dJ6_compare_7cf53_14 (by decide) ?_
      refine lv_goto (tgt := 19) hx hb dJ6_compare_7cf53_15 (by decide) ?_
      exact rg_i (v := (0 : Int32)) (F := (f_J6_compare_7cf53 a1 a2)) (by unfold f_J6_compare_7cf53; rw [if_pos c_1, if_pos c_2]; try rfl) X hP hD hS hAe hr hlk dJ6_compare_7cf53_19
  ·
    refine lv_iconst (v := (-1 : Int32)) hx hb dJ6_compare_7cf53_5 (by decide) ?_
    refine lv_goto (tgt := 19) hx hb dJ6_compare_7cf53_6 (by decide) ?_
    exact rg_i (v := (-1 : Int32)) (F := (f_J6_compare_7cf53 a1 a2)) (by unfold f_J6_compare_7cf53; rw [if_neg c_1]; try rfl) X hP hD hS hAe hr hlk dJ6_compare_7cf53_19
set_option maxHeartbeats 4000000 in
set_option maxRecDepth 100000 in
theorem c_J6_compareUnsigned_7cf53 (l : Launch) (D : va_G) (tys : List (ClassId × FieldType)) (ws : va_W) (a1 : Int32) (a2 : Int32) : Mt l yJ6_compareUnsigned_7cf53 cJ6_compareUnsigned_7cf53 2 (some .int) 1 D tys [.int a1, .int a2] ws (QcI D ws ws (f_J6_compareUnsigned_7cf53 a1 a2)) := by
  refine ent (own := RJ6) rfl (by decide) (Nat.le_of_ble_eq_true rfl) ?_
  intro p e s m below meth c A ls X hr hlk hmn hAe hA hP hD hS hl
  have hx := X.1.1
  have hb := X.1.2.1
  have hl : lv_has ls 2 [(0, .int a1), (1, .int a2)] := hl
  refine lv_iload_n hx hb dJ6_compareUnsigned_7cf53_0 rfl (lv_at hl 0 rfl) ?_
  refine lv_ldc (v := (-2147483648 : Int32)) hx hb X.1.2.2.2.1 (X.1.2.2.2.2 _ wd_307) dJ6_compareUnsigned_7cf53_1 ?_
  refine lv_iadd hx hb dJ6_compareUnsigned_7cf53_3 ?_
  refine lv_iload_n hx hb dJ6_compareUnsigned_7cf53_4 rfl (lv_at hl 1 rfl) ?_
  refine lv_ldc (v := (-2147483648 : Int32)) hx hb X.1.2.2.2.1 (X.1.2.2.2.2 _ wd_307) dJ6_compareUnsigned_7cf53_5 ?_
  refine lv_iadd hx hb dJ6_compareUnsigned_7cf53_7 ?_
  refine go_i (rn_S X (c_J6_compare_7cf53 l D _ _ (a1 + (-2147483648 : Int32)) (a2 + (-2147483648 : Int32))) ok_J6_compare_7cf53 wd_308 ⟨by decide, by decide⟩ hP hD rfl hl.1 rfl (Nat.le_of_ble_eq_true rfl) dJ6_compareUnsigned_7cf53_8 ⟨Nat.zero_le _, Nat.zero_le _⟩) hP hD hS hA (fun H locs hP hD hS => ?_)
  exact rg_i (v := (f_J6_compare_7cf53 (a1 + (-2147483648 : Int32)) (a2 + (-2147483648 : Int32)))) (F := (f_J6_compareUnsigned_7cf53 a1 a2)) rfl X hP hD hS hAe hr hlk dJ6_compareUnsigned_7cf53_11
set_option maxHeartbeats 4000000 in
set_option maxRecDepth 100000 in
theorem c_X0_get (l : Launch) (D : va_G) (q : Nat → Nat) (ca : Nat → ClassId) (nW nB : Nat) (hk : KOk nW nB) (E : KS) (a1 : Int32) (a2 : Bool) : Mt l yX0_get cX0_get 3 (some .int) 0 D (tysK ca) [.ref (q 6), .int a1, .int (b2i a2)] (cwK q ca nW nB E) (QcI D (cwK q ca nW nB E) (cwK q ca nW nB E) (f_X0_get nW nB E a1 a2)) := by
  refine ent (own := RX0) rfl (by decide) (Nat.le_of_ble_eq_true rfl) ?_
  intro p e s m below meth c A ls X hr hlk hmn hAe hA hP hD hS hl
  have hx := X.1.1
  have hb := X.1.2.1
  have hl : lv_has ls 3 [(0, .ref (q 6)), (1, .int a1), (2, .int (b2i a2))] := hl
  refine lv_iload_n hx hb dX0_get_0 rfl (lv_at hl 1 rfl) ?_
  by_cases c_1 : a1 = (768 : Int32)
  ·
    refine lv_lookup (off := 83) (tgt := 84) hx hb dX0_get_1 (by decide) (by rw [c_1]; decide) (by decide) ?_
    refine lv_sipush (v := (6144 : Int32)) hx hb dX0_get_84 (by decide) ?_
    refine lv_aload_n hx hb dX0_get_87 rfl (lv_at hl 0 rfl) ?_
    refine gf_X0_7 X hP dX0_get_88 ?_
    refine lv_if_eq (tgt := 99) hx hb dX0_get_91 (by decide) (fun c_2 => ?_) (fun c_2 => ?_)
    ·
      refine lv_iconst (v := (0 : Int32)) hx hb dX0_get_99 (by decide) ?_
      refine lv_ior hx hb dX0_get_100 ?_
      refine lv_aload_n hx hb dX0_get_101 rfl (lv_at hl 0 rfl) ?_
      refine gf_X0_13 X hP dX0_get_102 ?_
      refine lv_if_eq (tgt := 114) hx hb dX0_get_105 (by decide) (fun c_3 => ?_) (fun c_3 => ?_)
      ·
        refine lv_iconst (v := (0 : Int32)) hx hb dX0_get_114 (by decide) ?_
        refine lv_ior hx hb dX0_get_115 ?_
        exact rg_i (v := (((6144 : Int32) ||| (0 : Int32)) ||| (0 : Int32))) (F := (f_X0_get nW nB E a1 a2)) (by unfold f_X0_get; rw [if_pos c_1, if_pos c_2, if_pos c_3]; try rfl) X hP hD hS hAe hr hlk dX0_get_116
      ·
        refine lv_sipush (v := (128 : Int32)) hx hb dX0_get_108 (by decide) ?_
        refine lv_goto (tgt := 115) hx hb dX0_get_111 (by decide) ?_
        refine lv_ior hx hb dX0_get_115 ?_
        exact rg_i (v := (((6144 : Int32) ||| (0 : Int32)) ||| (128 : Int32))) (F := (f_X0_get nW nB E a1 a2)) (by unfold f_X0_get; rw [if_pos c_1, if_pos c_2, if_neg c_3]; try rfl) X hP hD hS hAe hr hlk dX0_get_116
    ·
      refine lv_bipush (v := (8 : Int32)) hx hb dX0_get_94 (by decide) ?_
      refine lv_goto (tgt := 100) hx hb dX0_get_96 (by decide) ?_
      refine lv_ior hx hb dX0_get_100 ?_
      refine lv_aload_n hx hb dX0_get_101 rfl (lv_at hl 0 rfl) ?_
      refine gf_X0_13 X hP dX0_get_102 ?_
      refine lv_if_eq (tgt := 114) hx hb dX0_get_105 (by decide) (fun c_4 => ?_) (fun c_4 => ?_)
      ·
        refine lv_iconst (v := (0 : Int32)) hx hb dX0_get_114 (by decide) ?_
        refine lv_ior hx hb dX0_get_115 ?_
        exact rg_i (v := (((6144 : Int32) ||| (8 : Int32)) ||| (0 : Int32))) (F := (f_X0_get nW nB E a1 a2)) (by unfold f_X0_get; rw [if_pos c_1, if_neg c_2, if_pos c_4]; try rfl) X hP hD hS hAe hr hlk dX0_get_116
      ·
        refine lv_sipush (v := (128 : Int32)) hx hb dX0_get_108 (by decide) ?_
        refine lv_goto (tgt := 115) hx hb dX0_get_111 (by decide) ?_
        refine lv_ior hx hb dX0_get_115 ?_
        exact rg_i (v := (((6144 : Int32) ||| (8 : Int32)) ||| (128 : Int32))) (F := (f_X0_get nW nB E a1 a2)) (by unfold f_X0_get; rw [if_pos c_1, if_neg c_2, if_neg c_4]; try rfl) X hP hD hS hAe hr hlk dX0_get_116
  by_cases c_5 : a1 = (769 : Int32)
  ·
    refine lv_lookup (off := 116) (tgt := 117) hx hb dX0_get_1 (by decide) (by rw [c_5]; decide) (by decide) ?_
    refine lv_ldc (v := (1073746176 : Int32)) hx hb X.1.2.2.2.1 (X.1.2.2.2.2 _ wd_407) dX0_get_117 ?_
    exact rg_i (v := (1073746176 : Int32)) (F := (f_X0_get nW nB E a1 a2)) (by unfold f_X0_get; rw [if_neg c_1, if_pos c_5]; try rfl) X hP hD hS hAe hr hlk dX0_get_119
  by_cases c_6 : a1 = (772 : Int32)
  ·
    refine lv_lookup (off := 119) (tgt := 120) hx hb dX0_get_1 (by decide) (by rw [c_6]; decide) (by decide) ?_
    refine lv_aload_n hx hb dX0_get_120 rfl (lv_at hl 0 rfl) ?_
    refine gf_X0_16 X hP dX0_get_121 ?_
    exact rg_i (v := (kenabled E)) (F := (f_X0_get nW nB E a1 a2)) (by unfold f_X0_get; rw [if_neg c_1, if_neg c_5, if_pos c_6]; try rfl) X hP hD hS hAe hr hlk dX0_get_124
  by_cases c_7 : a1 = (773 : Int32)
  ·
    refine lv_lookup (off := 124) (tgt := 125) hx hb dX0_get_1 (by decide) (by rw [c_7]; decide) (by decide) ?_
    refine lv_aload_n hx hb dX0_get_125 rfl (lv_at hl 0 rfl) ?_
    refine gf_X0_20 X hP dX0_get_126 ?_
    exact rg_i (v := (kvector E)) (F := (f_X0_get nW nB E a1 a2)) (by unfold f_X0_get; rw [if_neg c_1, if_neg c_5, if_neg c_6, if_pos c_7]; try rfl) X hP hD hS hAe hr hlk dX0_get_129
  by_cases c_8 : a1 = (832 : Int32)
  ·
    refine lv_lookup (off := 129) (tgt := 130) hx hb dX0_get_1 (by decide) (by rw [c_8]; decide) (by decide) ?_
    refine lv_aload_n hx hb dX0_get_130 rfl (lv_at hl 0 rfl) ?_
    refine gf_X0_23 X hP dX0_get_131 ?_
    exact rg_i (v := (kscratch E)) (F := (f_X0_get nW nB E a1 a2)) (by unfold f_X0_get; rw [if_neg c_1, if_neg c_5, if_neg c_6, if_neg c_7, if_pos c_8]; try rfl) X hP hD hS hAe hr hlk dX0_get_134
  by_cases c_9 : a1 = (833 : Int32)
  ·
    refine lv_lookup (off := 134) (tgt := 135) hx hb dX0_get_1 (by decide) (by rw [c_9]; decide) (by decide) ?_
    refine lv_aload_n hx hb dX0_get_135 rfl (lv_at hl 0 rfl) ?_
    refine gf_X0_26 X hP dX0_get_136 ?_
    exact rg_i (v := (kback E)) (F := (f_X0_get nW nB E a1 a2)) (by unfold f_X0_get; rw [if_neg c_1, if_neg c_5, if_neg c_6, if_neg c_7, if_neg c_8, if_pos c_9]; try rfl) X hP hD hS hAe hr hlk dX0_get_139
  by_cases c_10 : a1 = (834 : Int32)
  ·
    refine lv_lookup (off := 139) (tgt := 140) hx hb dX0_get_1 (by decide) (by rw [c_10]; decide) (by decide) ?_
    refine lv_aload_n hx hb dX0_get_140 rfl (lv_at hl 0 rfl) ?_
    refine gf_X0_29 X hP dX0_get_141 ?_
    exact rg_i (v := (kcause E)) (F := (f_X0_get nW nB E a1 a2)) (by unfold f_X0_get; rw [if_neg c_1, if_neg c_5, if_neg c_6, if_neg c_7, if_neg c_8, if_neg c_9, if_pos c_10]; try rfl) X hP hD hS hAe hr hlk dX0_get_144
  by_cases c_11 : a1 = (835 : Int32)
  ·
    refine lv_lookup (off := 144) (tgt := 145) hx hb dX0_get_1 (by decide) (by rw [c_11]; decide) (by decide) ?_
    refine lv_aload_n hx hb dX0_get_145 rfl (lv_at hl 0 rfl) ?_
    refine gf_X0_32 X hP dX0_get_146 ?_
    exact rg_i (v := (kvalue E)) (F := (f_X0_get nW nB E a1 a2)) (by unfold f_X0_get; rw [if_neg c_1, if_neg c_5, if_neg c_6, if_neg c_7, if_neg c_8, if_neg c_9, if_neg c_10, if_pos c_11]; try rfl) X hP hD hS hAe hr hlk dX0_get_149
  by_cases c_12 : a1 = (836 : Int32)
  ·
    refine lv_lookup (off := 149) (tgt := 150) hx hb dX0_get_1 (by decide) (by rw [c_12]; decide) (by decide) ?_
    refine lv_iload_n hx hb dX0_get_150 rfl (lv_at hl 2 rfl) ?_
    refine lv_if_eq (tgt := 160) hx hb dX0_get_151 (by decide) (fun c_13 => ?_) (fun c_13 => ?_)
    ·
      refine lv_iconst (v := (0 : Int32)) hx hb dX0_get_160 (by decide) ?_
      exact rg_i (v := (0 : Int32)) (F := (f_X0_get nW nB E a1 a2)) (by unfold f_X0_get; rw [if_neg c_1, if_neg c_5, if_neg c_6, if_neg c_7, if_neg c_8, if_neg c_9, if_neg c_10, if_neg c_11, if_pos c_12, if_pos c_13]; try rfl) X hP hD hS hAe hr hlk dX0_get_161
    ·
      refine lv_sipush (v := (128 : Int32)) hx hb dX0_get_154 (by decide) ?_
      refine lv_goto (tgt := 161) hx hb dX0_get_157 (by decide) ?_
      exact rg_i (v := (128 : Int32)) (F := (f_X0_get nW nB E a1 a2)) (by unfold f_X0_get; rw [if_neg c_1, if_neg c_5, if_neg c_6, if_neg c_7, if_neg c_8, if_neg c_9, if_neg c_10, if_neg c_11, if_pos c_12, if_neg c_13]; try rfl) X hP hD hS hAe hr hlk dX0_get_161
  refine lv_lookup (off := 161) (tgt := 162) hx hb dX0_get_1 (by decide) ((lv_osw c_1 (by decide)).trans ((lv_osw c_5 (by decide)).trans ((lv_osw c_6 (by decide)).trans ((lv_osw c_7 (by decide)).trans ((lv_osw c_8 (by decide)).trans ((lv_osw c_9 (by decide)).trans ((lv_osw c_10 (by decide)).trans ((lv_osw c_11 (by decide)).trans ((lv_osw c_12 (by decide)).trans rfl))))))))) (by decide) ?_
  refine lv_iconst (v := (0 : Int32)) hx hb dX0_get_162 (by decide) ?_
  exact rg_i (v := (0 : Int32)) (F := (f_X0_get nW nB E a1 a2)) (by unfold f_X0_get; rw [if_neg c_1, if_neg c_5, if_neg c_6, if_neg c_7, if_neg c_8, if_neg c_9, if_neg c_10, if_neg c_11, if_neg c_12]; try rfl) X hP hD hS hAe hr hlk dX0_get_163
set_option maxHeartbeats 4000000 in
set_option maxRecDepth 100000 in
theorem c_X0_lists (l : Launch) (D : va_G) (tys : List (ClassId × FieldType)) (ws : va_W) (a1 : Int32) : Mt l yX0_lists cX0_lists 1 (some .boolean) 0 D tys [.int a1] ws (QcI D ws ws (b2i (f_X0_lists a1))) := by
  refine ent (own := RX0) rfl (by decide) (Nat.le_of_ble_eq_true rfl) ?_
  intro p e s m below meth c A ls X hr hlk hmn hAe hA hP hD hS hl
  have hx := X.1.1
  have hb := X.1.2.1
  have hl : lv_has ls 1 [(0, .int a1)] := hl
  refine lv_iload_n hx hb dX0_lists_0 rfl (lv_at hl 0 rfl) ?_
  by_cases c_1 : a1 = (768 : Int32)
  ·
    refine lv_lookup (off := 91) (tgt := 92) hx hb dX0_lists_1 (by decide) (by rw [c_1]; decide) (by decide) ?_
    refine lv_iconst (v := (1 : Int32)) hx hb dX0_lists_92 (by decide) ?_
    exact rg_z (v := true) (F := (f_X0_lists a1)) (by unfold f_X0_lists; rw [if_pos c_1]; try rfl) X hP hD hS hAe hr hlk dX0_lists_93
  by_cases c_2 : a1 = (769 : Int32)
  ·
    refine lv_lookup (off := 91) (tgt := 92) hx hb dX0_lists_1 (by decide) (by rw [c_2]; decide) (by decide) ?_
    refine lv_iconst (v := (1 : Int32)) hx hb dX0_lists_92 (by decide) ?_
    exact rg_z (v := true) (F := (f_X0_lists a1)) (by unfold f_X0_lists; rw [if_neg c_1, if_pos c_2]; try rfl) X hP hD hS hAe hr hlk dX0_lists_93
  by_cases c_3 : a1 = (772 : Int32)
  ·
    refine lv_lookup (off := 91) (tgt := 92) hx hb dX0_lists_1 (by decide) (by rw [c_3]; decide) (by decide) ?_
    refine lv_iconst (v := (1 : Int32)) hx hb dX0_lists_92 (by decide) ?_
    exact rg_z (v := true) (F := (f_X0_lists a1)) (by unfold f_X0_lists; rw [if_neg c_1, if_neg c_2, if_pos c_3]; try rfl) X hP hD hS hAe hr hlk dX0_lists_93
  by_cases c_4 : a1 = (773 : Int32)
  ·
    refine lv_lookup (off := 91) (tgt := 92) hx hb dX0_lists_1 (by decide) (by rw [c_4]; decide) (by decide) ?_
    refine lv_iconst (v := (1 : Int32)) hx hb dX0_lists_92 (by decide) ?_
    exact rg_z (v := true) (F := (f_X0_lists a1)) (by unfold f_X0_lists; rw [if_neg c_1, if_neg c_2, if_neg c_3, if_pos c_4]; try rfl) X hP hD hS hAe hr hlk dX0_lists_93
  by_cases c_5 : a1 = (832 : Int32)
  ·
    refine lv_lookup (off := 91) (tgt := 92) hx hb dX0_lists_1 (by decide) (by rw [c_5]; decide) (by decide) ?_
    refine lv_iconst (v := (1 : Int32)) hx hb dX0_lists_92 (by decide) ?_
    exact rg_z (v := true) (F := (f_X0_lists a1)) (by unfold f_X0_lists; rw [if_neg c_1, if_neg c_2, if_neg c_3, if_neg c_4, if_pos c_5]; try rfl) X hP hD hS hAe hr hlk dX0_lists_93
  by_cases c_6 : a1 = (833 : Int32)
  ·
    refine lv_lookup (off := 91) (tgt := 92) hx hb dX0_lists_1 (by decide) (by rw [c_6]; decide) (by decide) ?_
    refine lv_iconst (v := (1 : Int32)) hx hb dX0_lists_92 (by decide) ?_
    exact rg_z (v := true) (F := (f_X0_lists a1)) (by unfold f_X0_lists; rw [if_neg c_1, if_neg c_2, if_neg c_3, if_neg c_4, if_neg c_5, if_pos c_6]; try rfl) X hP hD hS hAe hr hlk dX0_lists_93
  by_cases c_7 : a1 = (834 : Int32)
  ·
    refine lv_lookup (off := 91) (tgt := 92) hx hb dX0_lists_1 (by decide) (by rw [c_7]; decide) (by decide) ?_
    refine lv_iconst (v := (1 : Int32)) hx hb dX0_lists_92 (by decide) ?_
    exact rg_z (v := true) (F := (f_X0_lists a1)) (by unfold f_X0_lists; rw [if_neg c_1, if_neg c_2, if_neg c_3, if_neg c_4, if_neg c_5, if_neg c_6, if_pos c_7]; try rfl) X hP hD hS hAe hr hlk dX0_lists_93
  by_cases c_8 : a1 = (835 : Int32)
  ·
    refine lv_lookup (off := 91) (tgt := 92) hx hb dX0_lists_1 (by decide) (by rw [c_8]; decide) (by decide) ?_
    refine lv_iconst (v := (1 : Int32)) hx hb dX0_lists_92 (by decide) ?_
    exact rg_z (v := true) (F := (f_X0_lists a1)) (by unfold f_X0_lists; rw [if_neg c_1, if_neg c_2, if_neg c_3, if_neg c_4, if_neg c_5, if_neg c_6, if_neg c_7, if_pos c_8]; try rfl) X hP hD hS hAe hr hlk dX0_lists_93
  by_cases c_9 : a1 = (836 : Int32)
  ·
    refine lv_lookup (off := 91) (tgt := 92) hx hb dX0_lists_1 (by decide) (by rw [c_9]; decide) (by decide) ?_
    refine lv_iconst (v := (1 : Int32)) hx hb dX0_lists_92 (by decide) ?_
    exact rg_z (v := true) (F := (f_X0_lists a1)) (by unfold f_X0_lists; rw [if_neg c_1, if_neg c_2, if_neg c_3, if_neg c_4, if_neg c_5, if_neg c_6, if_neg c_7, if_neg c_8, if_pos c_9]; try rfl) X hP hD hS hAe hr hlk dX0_lists_93
  by_cases c_10 : a1 = (3860 : Int32)
  ·
    refine lv_lookup (off := 91) (tgt := 92) hx hb dX0_lists_1 (by decide) (by rw [c_10]; decide) (by decide) ?_
    refine lv_iconst (v := (1 : Int32)) hx hb dX0_lists_92 (by decide) ?_
    exact rg_z (v := true) (F := (f_X0_lists a1)) (by unfold f_X0_lists; rw [if_neg c_1, if_neg c_2, if_neg c_3, if_neg c_4, if_neg c_5, if_neg c_6, if_neg c_7, if_neg c_8, if_neg c_9, if_pos c_10]; try rfl) X hP hD hS hAe hr hlk dX0_lists_93
  refine lv_lookup (off := 93) (tgt := 94) hx hb dX0_lists_1 (by decide) ((lv_osw c_1 (by decide)).trans ((lv_osw c_2 (by decide)).trans ((lv_osw c_3 (by decide)).trans ((lv_osw c_4 (by decide)).trans ((lv_osw c_5 (by decide)).trans ((lv_osw c_6 (by decide)).trans ((lv_osw c_7 (by decide)).trans ((lv_osw c_8 (by decide)).trans ((lv_osw c_9 (by decide)).trans ((lv_osw c_10 (by decide)).trans rfl)))))))))) (by decide) ?_
  refine lv_iconst (v := (0 : Int32)) hx hb dX0_lists_94 (by decide) ?_
  exact rg_z (v := false) (F := (f_X0_lists a1)) (by unfold f_X0_lists; rw [if_neg c_1, if_neg c_2, if_neg c_3, if_neg c_4, if_neg c_5, if_neg c_6, if_neg c_7, if_neg c_8, if_neg c_9, if_neg c_10]; try rfl) X hP hD hS hAe hr hlk dX0_lists_95
set_option maxHeartbeats 4000000 in
set_option maxRecDepth 100000 in
theorem c_X3_isDue (l : Launch) (D : va_G) (q : Nat → Nat) (ca : Nat → ClassId) (nW nB : Nat) (hk : KOk nW nB) (E : KS) : Mt l yX3_isDue cX3_isDue 1 (some .boolean) 2 D (tysK ca) [.ref (q 3)] (cwK q ca nW nB E) (QcI D (cwK q ca nW nB E) (cwK q ca nW nB E) (b2i (f_X3_isDue nW nB E))) := by
  refine ent (own := RX3) rfl (by decide) (Nat.le_of_ble_eq_true rfl) ?_
  intro p e s m below meth c A ls X hr hlk hmn hAe hA hP hD hS hl
  have hx := X.1.1
  have hb := X.1.2.1
  have hl : lv_has ls 1 [(0, .ref (q 3))] := hl
  refine lv_aload_n hx hb dX3_isDue_0 rfl (lv_at hl 0 rfl) ?_
  refine gf_X3_7 X hP dX3_isDue_1 ?_
  refine lv_aload_n hx hb dX3_isDue_4 rfl (lv_at hl 0 rfl) ?_
  refine gf_X3_15 X hP dX3_isDue_5 ?_
  refine go_i (rn_S X (c_J13_compareUnsigned_74951 l D _ _ (ktime E) (klimit E)) ok_J13_compareUnsigned_74951 wd_229 ⟨by decide, by decide⟩ hP hD rfl hl.1 rfl (Nat.le_of_ble_eq_true rfl) dX3_isDue_8 ⟨Nat.zero_le _, Nat.zero_le _⟩) hP hD hS hA (fun H locs hP hD hS => ?_)
  refine lv_if_lt (tgt := 18) hx hb dX3_isDue_11 (by decide) (fun c_1 => ?_) (fun c_1 => ?_)
  ·
    refine lv_iconst (v := (0 : Int32)) hx hb dX3_isDue_18 (by decide) ?_
    exact rg_z (v := false) (F := (f_X3_isDue nW nB E)) (by unfold f_X3_isDue; rw [if_pos c_1]; try rfl) X hP hD hS hAe hr hlk dX3_isDue_19
  ·
    refine lv_iconst (v := (1 : Int32)) hx hb dX3_isDue_14 (by decide) ?_
    refine lv_goto (tgt := 19) hx hb dX3_isDue_15 (by decide) ?_
    exact rg_z (v := true) (F := (f_X3_isDue nW nB E)) (by unfold f_X3_isDue; rw [if_neg c_1]; try rfl) X hP hD hS hAe hr hlk dX3_isDue_19
set_option maxHeartbeats 4000000 in
set_option maxRecDepth 100000 in
theorem c_X4_csr (l : Launch) (D : va_G) (q : Nat → Nat) (ca : Nat → ClassId) (nW nB : Nat) (hk : KOk nW nB) (E : KS) (a1 : Int32) : Mt l yX4_csr cX4_csr 2 (some .int) 3 D (tysK ca) [.ref (q 0), .int a1] (cwK q ca nW nB E) (QcI D (cwK q ca nW nB E) (cwK q ca nW nB E) (f_X4_csr nW nB E a1)) := by
  refine ent (own := RX4) rfl (by decide) (Nat.le_of_ble_eq_true rfl) ?_
  intro p e s m below meth c A ls X hr hlk hmn hAe hA hP hD hS hl
  have hx := X.1.1
  have hb := X.1.2.1
  have hl : lv_has ls 2 [(0, .ref (q 0)), (1, .int a1)] := hl
  refine lv_iload_n hx hb dX4_csr_0 rfl (lv_at hl 1 rfl) ?_
  refine go_i (rn_S X (c_X0_lists l D _ _ a1) ok_X0_lists wd_400 ⟨by decide, by decide⟩ hP hD rfl hl.1 rfl (Nat.le_of_ble_eq_true rfl) dX4_csr_1 ⟨Nat.zero_le _, Nat.zero_le _⟩) hP hD hS hA (fun H locs hP hD hS => ?_)
  refine lv_if_eq (tgt := 25) hx hb dX4_csr_4 (by decide) (fun c_1 => ?_) (fun c_1 => ?_)
  ·
    refine lv_iconst (v := (0 : Int32)) hx hb dX4_csr_25 (by decide) ?_
    exact rg_i (v := (0 : Int32)) (F := (f_X4_csr nW nB E a1)) (by unfold f_X4_csr; rw [if_pos c_1]; try rfl) X hP hD hS hAe hr hlk dX4_csr_26
  ·
    refine lv_aload_n hx hb dX4_csr_7 rfl (lv_at hl 0 rfl) ?_
    refine gf_X4_45 X hP dX4_csr_8 ?_
    refine lv_iload_n hx hb dX4_csr_11 rfl (lv_at hl 1 rfl) ?_
    refine lv_aload_n hx hb dX4_csr_12 rfl (lv_at hl 0 rfl) ?_
    refine gf_X4_31 X hP dX4_csr_13 ?_
    refine go_i (rn_V (ci := 3) (q0 := 3) X (c_X3_isDue l D q ca nW nB hk E ) ok_X3_isDue wd_225 ⟨by decide, by decide⟩ hP hD rfl rfl rfl hl.1 rfl (Nat.le_of_ble_eq_true rfl) dX4_csr_16 ⟨Nat.zero_le _, Nat.zero_le _⟩) hP hD hS hA (fun H locs hP hD hS => ?_)
    refine go_i (rn_V (ci := 0) (q0 := 6) X (c_X0_get l D q ca nW nB hk E a1 (f_X3_isDue nW nB E)) ok_X0_get wd_403 ⟨by decide, by decide⟩ hP hD rfl rfl rfl hl.1 rfl (Nat.le_of_ble_eq_true rfl) dX4_csr_19 ⟨Nat.zero_le _, Nat.zero_le _⟩) hP hD hS hA (fun H locs hP hD hS => ?_)
    refine lv_goto (tgt := 26) hx hb dX4_csr_22 (by decide) ?_
    exact rg_i (v := (f_X0_get nW nB E a1 (f_X3_isDue nW nB E))) (F := (f_X4_csr nW nB E a1)) (by unfold f_X4_csr; rw [if_neg c_1]; try rfl) X hP hD hS hAe hr hlk dX4_csr_26
set_option maxHeartbeats 4000000 in
set_option maxRecDepth 100000 in
theorem c_X0_restart (l : Launch) (D : va_G) (q : Nat → Nat) (ca : Nat → ClassId) (nW nB : Nat) (hk : KOk nW nB) (E : KS) : Mt l yX0_restart cX0_restart 1 none 0 D (tysK ca) [.ref (q 6)] (cwK q ca nW nB E) (QcV D (cwK q ca nW nB E) (cwK q ca nW nB (f_X0_restart nW nB E))) := by
  refine ent (own := RX0) rfl (by decide) (Nat.le_of_ble_eq_true rfl) ?_
  intro p e s m below meth c A ls X hr hlk hmn hAe hA hP hD hS hl
  have hx := X.1.1
  have hb := X.1.2.1
  have hl : lv_has ls 1 [(0, .ref (q 6))] := hl
  refine lv_aload_n hx hb dX0_restart_0 rfl (lv_at hl 0 rfl) ?_
  refine lv_iconst (v := (0 : Int32)) hx hb dX0_restart_1 (by decide) ?_
  refine pf_X0_7 X hP hD hS false dX0_restart_2 (fun H locs hP hD hS => ?_)
  refine lv_aload_n hx hb dX0_restart_5 rfl (lv_at hl 0 rfl) ?_
  refine lv_iconst (v := (0 : Int32)) hx hb dX0_restart_6 (by decide) ?_
  refine pf_X0_13 X hP hD hS false dX0_restart_7 (fun H locs hP hD hS => ?_)
  refine lv_aload_n hx hb dX0_restart_10 rfl (lv_at hl 0 rfl) ?_
  refine lv_iconst (v := (0 : Int32)) hx hb dX0_restart_11 (by decide) ?_
  refine pf_X0_16 X hP hD hS (0 : Int32) dX0_restart_12 (fun H locs hP hD hS => ?_)
  refine lv_aload_n hx hb dX0_restart_15 rfl (lv_at hl 0 rfl) ?_
  refine lv_iconst (v := (0 : Int32)) hx hb dX0_restart_16 (by decide) ?_
  refine pf_X0_20 X hP hD hS (0 : Int32) dX0_restart_17 (fun H locs hP hD hS => ?_)
  refine lv_aload_n hx hb dX0_restart_20 rfl (lv_at hl 0 rfl) ?_
  refine lv_iconst (v := (0 : Int32)) hx hb dX0_restart_21 (by decide) ?_
  refine pf_X0_23 X hP hD hS (0 : Int32) dX0_restart_22 (fun H locs hP hD hS => ?_)
  refine lv_aload_n hx hb dX0_restart_25 rfl (lv_at hl 0 rfl) ?_
  refine lv_iconst (v := (0 : Int32)) hx hb dX0_restart_26 (by decide) ?_
  refine pf_X0_26 X hP hD hS (0 : Int32) dX0_restart_27 (fun H locs hP hD hS => ?_)
  refine lv_aload_n hx hb dX0_restart_30 rfl (lv_at hl 0 rfl) ?_
  refine lv_iconst (v := (0 : Int32)) hx hb dX0_restart_31 (by decide) ?_
  refine pf_X0_29 X hP hD hS (0 : Int32) dX0_restart_32 (fun H locs hP hD hS => ?_)
  refine lv_aload_n hx hb dX0_restart_35 rfl (lv_at hl 0 rfl) ?_
  refine lv_iconst (v := (0 : Int32)) hx hb dX0_restart_36 (by decide) ?_
  refine pf_X0_32 X hP hD hS (0 : Int32) dX0_restart_37 (fun H locs hP hD hS => ?_)
  exact rku_v (F := (f_X0_restart nW nB E)) (E1 := (kvalue_ (kcause_ (kback_ (kscratch_ (kvector_ (kenabled_ (kwas_ (kon_ E false) false) (0 : Int32)) (0 : Int32)) (0 : Int32)) (0 : Int32)) (0 : Int32)) (0 : Int32))) rfl X hP hD hS hAe hr hlk dX0_restart_40
set_option maxHeartbeats 4000000 in
set_option maxRecDepth 100000 in
theorem c_X2_restart (l : Launch) (D : va_G) (q : Nat → Nat) (ca : Nat → ClassId) (nW nB : Nat) (hk : KOk nW nB) (E : KS) : Mt l yX2_restart cX2_restart 1 none 0 D (tysK ca) [.ref (q 4)] (cwK q ca nW nB E) (QcV D (cwK q ca nW nB E) (cwK q ca nW nB (f_X2_restart nW nB E))) := by
  refine ent (own := RX2) rfl (by decide) (Nat.le_of_ble_eq_true rfl) ?_
  intro p e s m below meth c A ls X hr hlk hmn hAe hA hP hD hS hl
  have hx := X.1.1
  have hb := X.1.2.1
  have hl : lv_has ls 1 [(0, .ref (q 4))] := hl
  refine lv_aload_n hx hb dX2_restart_0 rfl (lv_at hl 0 rfl) ?_
  refine lv_iconst (v := (0 : Int32)) hx hb dX2_restart_1 (by decide) ?_
  refine pf_X2_13 X hP hD hS (0 : Int32) dX2_restart_2 (fun H locs hP hD hS => ?_)
  exact rku_v (F := (f_X2_restart nW nB E)) (E1 := (ksent_ E (0 : Int32))) rfl X hP hD hS hAe hr hlk dX2_restart_5
set_option maxHeartbeats 4000000 in
set_option maxRecDepth 100000 in
theorem c_X3_restart (l : Launch) (D : va_G) (q : Nat → Nat) (ca : Nat → ClassId) (nW nB : Nat) (hk : KOk nW nB) (E : KS) : Mt l yX3_restart cX3_restart 1 none 0 D (tysK ca) [.ref (q 3)] (cwK q ca nW nB E) (QcV D (cwK q ca nW nB E) (cwK q ca nW nB (f_X3_restart nW nB E))) := by
  refine ent (own := RX3) rfl (by decide) (Nat.le_of_ble_eq_true rfl) ?_
  intro p e s m below meth c A ls X hr hlk hmn hAe hA hP hD hS hl
  have hx := X.1.1
  have hb := X.1.2.1
  have hl : lv_has ls 1 [(0, .ref (q 3))] := hl
  refine lv_aload_n hx hb dX3_restart_0 rfl (lv_at hl 0 rfl) ?_
  refine lv_lconst (v := (0 : Int64)) hx hb dX3_restart_1 (by decide) ?_
  refine pf_X3_7 X hP hD hS (0 : Int64) dX3_restart_2 (fun H locs hP hD hS => ?_)
  refine lv_aload_n hx hb dX3_restart_5 rfl (lv_at hl 0 rfl) ?_
  refine lv_ldc2 (v := (-1 : Int64)) hx hb X.1.2.2.2.1 (X.1.2.2.2.2 _ wd_145) dX3_restart_6 ?_
  refine pf_X3_15 X hP hD hS (-1 : Int64) dX3_restart_9 (fun H locs hP hD hS => ?_)
  exact rku_v (F := (f_X3_restart nW nB E)) (E1 := (klimit_ (ktime_ E (0 : Int64)) (-1 : Int64))) rfl X hP hD hS hAe hr hlk dX3_restart_12
set_option maxHeartbeats 4000000 in
set_option maxRecDepth 100000 in
theorem c_X1_holds (l : Launch) (D : va_G) (q : Nat → Nat) (ca : Nat → ClassId) (nW nB : Nat) (hk : KOk nW nB) (E : KS) (a1 : Int32) : Mt l yX1_holds cX1_holds 2 (some .boolean) 0 D (tysK ca) [.ref (q 1), .int a1] (cwK q ca nW nB E) (QcI D (cwK q ca nW nB E) (cwK q ca nW nB E) (b2i (f_X1_holds nW nB E a1))) := by
  refine ent (own := RX1) rfl (by decide) (Nat.le_of_ble_eq_true rfl) ?_
  intro p e s m below meth c A ls X hr hlk hmn hAe hA hP hD hS hl
  have hx := X.1.1
  have hb := X.1.2.1
  have hl : lv_has ls 2 [(0, .ref (q 1)), (1, .int a1)] := hl
  refine lv_iload_n hx hb dX1_holds_0 rfl (lv_at hl 1 rfl) ?_
  refine lv_if_lt (tgt := 19) hx hb dX1_holds_1 (by decide) (fun c_1 => ?_) (fun c_1 => ?_)
  ·
    refine lv_iconst (v := (0 : Int32)) hx hb dX1_holds_19 (by decide) ?_
    exact rg_z (v := false) (F := (f_X1_holds nW nB E a1)) (by unfold f_X1_holds; rw [if_pos c_1]; try rfl) X hP hD hS hAe hr hlk dX1_holds_20
  ·
    refine lv_iload_n hx hb dX1_holds_4 rfl (lv_at hl 1 rfl) ?_
    refine lv_iconst (v := (2 : Int32)) hx hb dX1_holds_5 (by decide) ?_
    refine lv_ishr hx hb dX1_holds_6 ?_
    refine lv_aload_n hx hb dX1_holds_7 rfl (lv_at hl 0 rfl) ?_
    refine gf_X1_7 X hP dX1_holds_8 ?_
    refine klen_2 X hP dX1_holds_11 ?_
    refine lv_icmp_ge (tgt := 19) hx hb dX1_holds_12 (by decide) (fun c_2 => ?_) (fun c_2 => ?_)
    ·
      refine lv_iconst (v := (0 : Int32)) hx hb dX1_holds_19 (by decide) ?_
      exact rg_z (v := false) (F := (f_X1_holds nW nB E a1)) (by unfold f_X1_holds; rw [if_neg c_1, if_pos c_2]; try rfl) X hP hD hS hAe hr hlk dX1_holds_20
    ·
      refine lv_iconst (v := (1 : Int32)) hx hb dX1_holds_15 (by decide) ?_
      refine lv_goto (tgt := 20) hx hb dX1_holds_16 (by decide) ?_
      exact rg_z (v := true) (F := (f_X1_holds nW nB E a1)) (by unfold f_X1_holds; rw [if_neg c_1, if_neg c_2]; try rfl) X hP hD hS hAe hr hlk dX1_holds_20
set_option maxHeartbeats 4000000 in
set_option maxRecDepth 100000 in
theorem c_X1_mask (l : Launch) (D : va_G) (tys : List (ClassId × FieldType)) (ws : va_W) (a1 : Int32) : Mt l yX1_mask cX1_mask 1 (some .int) 0 D tys [.int a1] ws (QcI D ws ws (f_X1_mask a1)) := by
  refine ent (own := RX1) rfl (by decide) (Nat.le_of_ble_eq_true rfl) ?_
  intro p e s m below meth c A ls X hr hlk hmn hAe hA hP hD hS hl
  have hx := X.1.1
  have hb := X.1.2.1
  have hl : lv_has ls 1 [(0, .int a1)] := hl
  refine lv_iconst (v := (-1 : Int32)) hx hb dX1_mask_0 (by decide) ?_
  refine lv_bipush (v := (32 : Int32)) hx hb dX1_mask_1 (by decide) ?_
  refine lv_bipush (v := (8 : Int32)) hx hb dX1_mask_3 (by decide) ?_
  refine lv_iload_n hx hb dX1_mask_5 rfl (lv_at hl 0 rfl) ?_
  refine lv_imul hx hb dX1_mask_6 ?_
  refine lv_isub hx hb dX1_mask_7 ?_
  refine lv_iushr (v := (jushr (-1 : Int32) ((32 : Int32) - ((8 : Int32) * a1)))) hx hb dX1_mask_8 rfl ?_
  exact rg_i (v := (jushr (-1 : Int32) ((32 : Int32) - ((8 : Int32) * a1)))) (F := (f_X1_mask a1)) rfl X hP hD hS hAe hr hlk dX1_mask_9
set_option maxHeartbeats 4000000 in
set_option maxRecDepth 100000 in
theorem c_X1_shift (l : Launch) (D : va_G) (tys : List (ClassId × FieldType)) (ws : va_W) (a1 : Int32) : Mt l yX1_shift cX1_shift 1 (some .int) 0 D tys [.int a1] ws (QcI D ws ws (f_X1_shift a1)) := by
  refine ent (own := RX1) rfl (by decide) (Nat.le_of_ble_eq_true rfl) ?_
  intro p e s m below meth c A ls X hr hlk hmn hAe hA hP hD hS hl
  have hx := X.1.1
  have hb := X.1.2.1
  have hl : lv_has ls 1 [(0, .int a1)] := hl
  refine lv_iload_n hx hb dX1_shift_0 rfl (lv_at hl 0 rfl) ?_
  refine lv_iconst (v := (3 : Int32)) hx hb dX1_shift_1 (by decide) ?_
  refine lv_iand hx hb dX1_shift_2 ?_
  refine lv_bipush (v := (8 : Int32)) hx hb dX1_shift_3 (by decide) ?_
  refine lv_imul hx hb dX1_shift_5 ?_
  exact rg_i (v := ((a1 &&& (3 : Int32)) * (8 : Int32))) (F := (f_X1_shift a1)) rfl X hP hD hS hAe hr hlk dX1_shift_6
set_option maxHeartbeats 4000000 in
set_option maxRecDepth 100000 in
theorem c_X1_put (l : Launch) (D : va_G) (q : Nat → Nat) (ca : Nat → ClassId) (nW nB : Nat) (hk : KOk nW nB) (E : KS) (a1 : Int32) (a2 : Int32) (a3 : Int32) (hi : vp_in (a1 >>> ((2 : Int32) &&& 31)) nW) : Mt l yX1_put cX1_put 6 none 1 D (tysK ca) [.ref (q 1), .int a1, .int a2, .int a3] (cwK q ca nW nB E) (QcV D (cwK q ca nW nB E) (cwK q ca nW nB (f_X1_put nW nB E a1 a2 a3))) := by
  refine ent (own := RX1) rfl (by decide) (Nat.le_of_ble_eq_true rfl) ?_
  intro p e s m below meth c A ls X hr hlk hmn hAe hA hP hD hS hl
  have hx := X.1.1
  have hb := X.1.2.1
  have hl : lv_has ls 6 [(0, .ref (q 1)), (1, .int a1), (2, .int a2), (3, .int a3)] := hl
  refine lv_iload_n hx hb dX1_put_0 rfl (lv_at hl 2 rfl) ?_
  refine go_i (rn_S X (c_X1_mask l D _ _ a2) ok_X1_mask wd_195 ⟨by decide, by decide⟩ hP hD rfl hl.1 rfl (Nat.le_of_ble_eq_true rfl) dX1_put_1 ⟨Nat.zero_le _, Nat.zero_le _⟩) hP hD hS hA (fun H locs hP hD hS => ?_)
  refine lv_iload_n hx hb dX1_put_4 rfl (lv_at hl 1 rfl) ?_
  refine go_i (rn_S X (c_X1_shift l D _ _ a1) ok_X1_shift wd_198 ⟨by decide, by decide⟩ hP hD rfl hl.1 rfl (Nat.le_of_ble_eq_true rfl) dX1_put_5 ⟨Nat.zero_le _, Nat.zero_le _⟩) hP hD hS hA (fun H locs hP hD hS => ?_)
  refine lv_ishl hx hb dX1_put_8 ?_
  refine lv_istore (lv' := [(4, .int ((f_X1_mask a2) <<< ((f_X1_shift a1) &&& 31))), (0, .ref (q 1)), (1, .int a1), (2, .int a2), (3, .int a3)]) hx hb dX1_put_9 hl (by decide) rfl (fun ls hl => ?_)
  refine lv_aload_n hx hb dX1_put_11 rfl (lv_at hl 1 rfl) ?_
  refine gf_X1_7 X hP dX1_put_12 ?_
  refine lv_iload_n hx hb dX1_put_15 rfl (lv_at hl 2 rfl) ?_
  refine lv_iconst (v := (2 : Int32)) hx hb dX1_put_16 (by decide) ?_
  refine lv_ishr hx hb dX1_put_17 ?_
  refine kld_2 X hP hi dX1_put_18 ?_
  refine lv_iload hx hb dX1_put_19 (lv_at hl 0 rfl) ?_
  refine lv_iconst (v := (-1 : Int32)) hx hb dX1_put_21 (by decide) ?_
  refine lv_ixor hx hb dX1_put_22 ?_
  refine lv_iand hx hb dX1_put_23 ?_
  refine lv_istore (lv' := [(5, .int ((kwords E ((a1 >>> ((2 : Int32) &&& 31))).toNatClampNeg) &&& (((f_X1_mask a2) <<< ((f_X1_shift a1) &&& 31)) ^^^ (-1 : Int32)))), (4, .int ((f_X1_mask a2) <<< ((f_X1_shift a1) &&& 31))), (0, .ref (q 1)), (1, .int a1), (2, .int a2), (3, .int a3)]) hx hb dX1_put_24 hl (by decide) rfl (fun ls hl => ?_)
  refine lv_aload_n hx hb dX1_put_26 rfl (lv_at hl 2 rfl) ?_
  refine gf_X1_7 X hP dX1_put_27 ?_
  refine lv_iload_n hx hb dX1_put_30 rfl (lv_at hl 3 rfl) ?_
  refine lv_iconst (v := (2 : Int32)) hx hb dX1_put_31 (by decide) ?_
  refine lv_ishr hx hb dX1_put_32 ?_
  refine lv_iload hx hb dX1_put_33 (lv_at hl 0 rfl) ?_
  refine lv_iload_n hx hb dX1_put_35 rfl (lv_at hl 5 rfl) ?_
  refine lv_iload_n hx hb dX1_put_36 rfl (lv_at hl 3 rfl) ?_
  refine go_i (rn_S X (c_X1_shift l D _ _ a1) ok_X1_shift wd_198 ⟨by decide, by decide⟩ hP hD rfl hl.1 rfl (Nat.le_of_ble_eq_true rfl) dX1_put_37 ⟨Nat.zero_le _, Nat.zero_le _⟩) hP hD hS hA (fun H locs hP hD hS => ?_)
  refine lv_ishl hx hb dX1_put_40 ?_
  refine lv_iload hx hb dX1_put_41 (lv_at hl 1 rfl) ?_
  refine lv_iand hx hb dX1_put_43 ?_
  refine lv_ior hx hb dX1_put_44 ?_
  refine kst_2 X hP hD hS hi dX1_put_45 (fun H locs hP hD hS => ?_)
  exact rku_v (F := (f_X1_put nW nB E a1 a2 a3)) (E1 := (kwords_ E (upd (kwords E) ((a1 >>> ((2 : Int32) &&& 31))).toNatClampNeg (((kwords E ((a1 >>> ((2 : Int32) &&& 31))).toNatClampNeg) &&& (((f_X1_mask a2) <<< ((f_X1_shift a1) &&& 31)) ^^^ (-1 : Int32))) ||| ((a3 <<< ((f_X1_shift a1) &&& 31)) &&& ((f_X1_mask a2) <<< ((f_X1_shift a1) &&& 31))))))) rfl X hP hD hS hAe hr hlk dX1_put_46
set_option maxHeartbeats 4000000 in
set_option maxRecDepth 100000 in
theorem c_X4_load (l : Launch) (D : va_G) (q : Nat → Nat) (ca : Nat → ClassId) (nW nB : Nat) (hk : KOk nW nB) (E : KS) (a1 : Int32) (a2 : Int32) : Mt l yX4_load cX4_load 4 (some .boolean) 2 D (tysK ca) [.ref (q 0), .int a1, .int a2] (cwK q ca nW nB E) (QcI D (cwK q ca nW nB E) (cwK q ca nW nB (f_X4_load nW nB E a1 a2).2) (b2i (f_X4_load nW nB E a1 a2).1)) := by
  refine ent (own := RX4) rfl (by decide) (Nat.le_of_ble_eq_true rfl) ?_
  intro p e s m below meth c A ls X hr hlk hmn hAe hA hP hD hS hl
  have hx := X.1.1
  have hb := X.1.2.1
  have hl : lv_has ls 4 [(0, .ref (q 0)), (1, .int a1), (2, .int a2)] := hl
  refine lv_aload_n hx hb dX4_load_0 rfl (lv_at hl 0 rfl) ?_
  refine gf_X4_24 X hP dX4_load_1 ?_
  refine lv_iload_n hx hb dX4_load_4 rfl (lv_at hl 1 rfl) ?_
  refine go_i (rn_V (ci := 1) (q0 := 1) X (c_X1_holds l D q ca nW nB hk E a1) ok_X1_holds wd_187 ⟨by decide, by decide⟩ hP hD rfl rfl rfl hl.1 rfl (Nat.le_of_ble_eq_true rfl) dX4_load_5 ⟨Nat.zero_le _, Nat.zero_le _⟩) hP hD hS hA (fun H locs hP hD hS => ?_)
  refine lv_if_eq (tgt := 24) hx hb dX4_load_8 (by decide) (fun c_1 => ?_) (fun c_1 => ?_)
  ·
    refine lv_iconst (v := (0 : Int32)) hx hb dX4_load_24 (by decide) ?_
    exact rku_z (v := false) (F := (f_X4_load nW nB E a1 a2)) (E1 := E) (by unfold f_X4_load; rw [if_pos c_1]; try rfl) X hP hD hS hAe hr hlk dX4_load_25
  ·
    refine lv_aload_n hx hb dX4_load_11 rfl (lv_at hl 0 rfl) ?_
    refine gf_X4_24 X hP dX4_load_12 ?_
    refine lv_iload_n hx hb dX4_load_15 rfl (lv_at hl 1 rfl) ?_
    refine lv_iconst (v := (3 : Int32)) hx hb dX4_load_16 (by decide) ?_
    refine lv_iadd hx hb dX4_load_17 ?_
    refine go_i (rn_V (ci := 1) (q0 := 1) X (c_X1_holds l D q ca nW nB hk E (a1 + (3 : Int32))) ok_X1_holds wd_187 ⟨by decide, by decide⟩ hP hD rfl rfl rfl hl.1 rfl (Nat.le_of_ble_eq_true rfl) dX4_load_18 ⟨Nat.zero_le _, Nat.zero_le _⟩) hP hD hS hA (fun H locs hP hD hS => ?_)
    refine lv_if_ne (tgt := 26) hx hb dX4_load_21 (by decide) (fun c_2 => ?_) (fun c_2 => ?_)
    ·
      refine lv_iconst (v := (0 : Int32)) hx hb dX4_load_26 (by decide) ?_
      refine lv_istore_n (lv' := [(3, .int (0 : Int32)), (0, .ref (q 0)), (1, .int a1), (2, .int a2)]) hx hb dX4_load_27 rfl hl (by decide) rfl (fun ls hl => ?_)
      refine lv_iload_n hx hb dX4_load_28 rfl (lv_at hl 0 rfl) ?_
      refine lv_iconst (v := (4 : Int32)) hx hb dX4_load_29 (by decide) ?_
      refine lv_icmp_ge (tgt := 56) hx hb dX4_load_30 (by decide) (fun h => absurd h (by decide)) (fun _ => ?_)
      refine lv_aload_n hx hb dX4_load_33 rfl (lv_at hl 1 rfl) ?_
      refine gf_X4_24 X hP dX4_load_34 ?_
      refine lv_iload_n hx hb dX4_load_37 rfl (lv_at hl 2 rfl) ?_
      refine lv_iload_n hx hb dX4_load_38 rfl (lv_at hl 0 rfl) ?_
      refine lv_iadd hx hb dX4_load_39 ?_
      refine lv_iconst (v := (1 : Int32)) hx hb dX4_load_40 (by decide) ?_
      refine lv_iload_n hx hb dX4_load_41 rfl (lv_at hl 3 rfl) ?_
      refine lv_bipush (v := (8 : Int32)) hx hb dX4_load_42 (by decide) ?_
      refine lv_iload_n hx hb dX4_load_44 rfl (lv_at hl 0 rfl) ?_
      refine lv_imul hx hb dX4_load_45 ?_
      refine lv_iushr (v := (jushr a2 ((8 : Int32) * (0 : Int32)))) hx hb dX4_load_46 rfl ?_
      refine go_v (rn_V (ci := 1) (q0 := 1) X (c_X1_put l D q ca nW nB hk E (a1 + (0 : Int32)) (1 : Int32) (jushr a2 ((8 : Int32) * (0 : Int32))) (in_of_load hk c_1 c_2 (by decide) (by decide))) ok_X1_put wd_191 ⟨by decide, by decide⟩ hP hD rfl rfl rfl hl.1 rfl (Nat.le_of_ble_eq_true rfl) dX4_load_47 ⟨Nat.zero_le _, Nat.zero_le _⟩) hP hD hS hA (fun H locs hP hD hS => ?_)
      refine lv_iinc (v := (1 : Int32)) (lv' := [(3, .int (1 : Int32)), (0, .ref (q 0)), (1, .int a1), (2, .int a2)]) hx hb dX4_load_50 hl (k := 0) rfl (by decide) (by decide) rfl (fun ls hl => ?_)
      refine lv_goto (tgt := 28) hx hb dX4_load_53 (by decide) ?_
      refine lv_iload_n hx hb dX4_load_28 rfl (lv_at hl 0 rfl) ?_
      refine lv_iconst (v := (4 : Int32)) hx hb dX4_load_29 (by decide) ?_
      refine lv_icmp_ge (tgt := 56) hx hb dX4_load_30 (by decide) (fun h => absurd h (by decide)) (fun _ => ?_)
      refine lv_aload_n hx hb dX4_load_33 rfl (lv_at hl 1 rfl) ?_
      refine gf_X4_24 X hP dX4_load_34 ?_
      refine lv_iload_n hx hb dX4_load_37 rfl (lv_at hl 2 rfl) ?_
      refine lv_iload_n hx hb dX4_load_38 rfl (lv_at hl 0 rfl) ?_
      refine lv_iadd hx hb dX4_load_39 ?_
      refine lv_iconst (v := (1 : Int32)) hx hb dX4_load_40 (by decide) ?_
      refine lv_iload_n hx hb dX4_load_41 rfl (lv_at hl 3 rfl) ?_
      refine lv_bipush (v := (8 : Int32)) hx hb dX4_load_42 (by decide) ?_
      refine lv_iload_n hx hb dX4_load_44 rfl (lv_at hl 0 rfl) ?_
      refine lv_imul hx hb dX4_load_45 ?_
      refine lv_iushr (v := (jushr a2 ((8 : Int32) * (1 : Int32)))) hx hb dX4_load_46 rfl ?_
      refine go_v (rn_V (ci := 1) (q0 := 1) X (c_X1_put l D q ca nW nB hk (f_X1_put nW nB E (a1 + (0 : Int32)) (1 : Int32) (jushr a2 ((8 : Int32) * (0 : Int32)))) (a1 + (1 : Int32)) (1 : Int32) (jushr a2 ((8 : Int32) * (1 : Int32))) (in_of_load hk c_1 c_2 (by decide) (by decide))) ok_X1_put wd_191 ⟨by decide, by decide⟩ hP hD rfl rfl rfl hl.1 rfl (Nat.le_of_ble_eq_true rfl) dX4_load_47 ⟨Nat.zero_le _, Nat.zero_le _⟩) hP hD hS hA (fun H locs hP hD hS => ?_)
      refine lv_iinc (v := (2 : Int32)) (lv' := [(3, .int (2 : Int32)), (0, .ref (q 0)), (1, .int a1), (2, .int a2)]) hx hb dX4_load_50 hl (k := 0) rfl (by decide) (by decide) rfl (fun ls hl => ?_)
      refine lv_goto (tgt := 28) hx hb dX4_load_53 (by decide) ?_
      refine lv_iload_n hx hb dX4_load_28 rfl (lv_at hl 0 rfl) ?_
      refine lv_iconst (v := (4 : Int32)) hx hb dX4_load_29 (by decide) ?_
      refine lv_icmp_ge (tgt := 56) hx hb dX4_load_30 (by decide) (fun h => absurd h (by decide)) (fun _ => ?_)
      refine lv_aload_n hx hb dX4_load_33 rfl (lv_at hl 1 rfl) ?_
      refine gf_X4_24 X hP dX4_load_34 ?_
      refine lv_iload_n hx hb dX4_load_37 rfl (lv_at hl 2 rfl) ?_
      refine lv_iload_n hx hb dX4_load_38 rfl (lv_at hl 0 rfl) ?_
      refine lv_iadd hx hb dX4_load_39 ?_
      refine lv_iconst (v := (1 : Int32)) hx hb dX4_load_40 (by decide) ?_
      refine lv_iload_n hx hb dX4_load_41 rfl (lv_at hl 3 rfl) ?_
      refine lv_bipush (v := (8 : Int32)) hx hb dX4_load_42 (by decide) ?_
      refine lv_iload_n hx hb dX4_load_44 rfl (lv_at hl 0 rfl) ?_
      refine lv_imul hx hb dX4_load_45 ?_
      refine lv_iushr (v := (jushr a2 ((8 : Int32) * (2 : Int32)))) hx hb dX4_load_46 rfl ?_
      refine go_v (rn_V (ci := 1) (q0 := 1) X (c_X1_put l D q ca nW nB hk (f_X1_put nW nB (f_X1_put nW nB E (a1 + (0 : Int32)) (1 : Int32) (jushr a2 ((8 : Int32) * (0 : Int32)))) (a1 + (1 : Int32)) (1 : Int32) (jushr a2 ((8 : Int32) * (1 : Int32)))) (a1 + (2 : Int32)) (1 : Int32) (jushr a2 ((8 : Int32) * (2 : Int32))) (in_of_load hk c_1 c_2 (by decide) (by decide))) ok_X1_put wd_191 ⟨by decide, by decide⟩ hP hD rfl rfl rfl hl.1 rfl (Nat.le_of_ble_eq_true rfl) dX4_load_47 ⟨Nat.zero_le _, Nat.zero_le _⟩) hP hD hS hA (fun H locs hP hD hS => ?_)
      refine lv_iinc (v := (3 : Int32)) (lv' := [(3, .int (3 : Int32)), (0, .ref (q 0)), (1, .int a1), (2, .int a2)]) hx hb dX4_load_50 hl (k := 0) rfl (by decide) (by decide) rfl (fun ls hl => ?_)
      refine lv_goto (tgt := 28) hx hb dX4_load_53 (by decide) ?_
      refine lv_iload_n hx hb dX4_load_28 rfl (lv_at hl 0 rfl) ?_
      refine lv_iconst (v := (4 : Int32)) hx hb dX4_load_29 (by decide) ?_
      refine lv_icmp_ge (tgt := 56) hx hb dX4_load_30 (by decide) (fun h => absurd h (by decide)) (fun _ => ?_)
      refine lv_aload_n hx hb dX4_load_33 rfl (lv_at hl 1 rfl) ?_
      refine gf_X4_24 X hP dX4_load_34 ?_
      refine lv_iload_n hx hb dX4_load_37 rfl (lv_at hl 2 rfl) ?_
      refine lv_iload_n hx hb dX4_load_38 rfl (lv_at hl 0 rfl) ?_
      refine lv_iadd hx hb dX4_load_39 ?_
      refine lv_iconst (v := (1 : Int32)) hx hb dX4_load_40 (by decide) ?_
      refine lv_iload_n hx hb dX4_load_41 rfl (lv_at hl 3 rfl) ?_
      refine lv_bipush (v := (8 : Int32)) hx hb dX4_load_42 (by decide) ?_
      refine lv_iload_n hx hb dX4_load_44 rfl (lv_at hl 0 rfl) ?_
      refine lv_imul hx hb dX4_load_45 ?_
      refine lv_iushr (v := (jushr a2 ((8 : Int32) * (3 : Int32)))) hx hb dX4_load_46 rfl ?_
      refine go_v (rn_V (ci := 1) (q0 := 1) X (c_X1_put l D q ca nW nB hk (f_X1_put nW nB (f_X1_put nW nB (f_X1_put nW nB E (a1 + (0 : Int32)) (1 : Int32) (jushr a2 ((8 : Int32) * (0 : Int32)))) (a1 + (1 : Int32)) (1 : Int32) (jushr a2 ((8 : Int32) * (1 : Int32)))) (a1 + (2 : Int32)) (1 : Int32) (jushr a2 ((8 : Int32) * (2 : Int32)))) (a1 + (3 : Int32)) (1 : Int32) (jushr a2 ((8 : Int32) * (3 : Int32))) (in_of_load hk c_1 c_2 (by decide) (by decide))) ok_X1_put wd_191 ⟨by decide, by decide⟩ hP hD rfl rfl rfl hl.1 rfl (Nat.le_of_ble_eq_true rfl) dX4_load_47 ⟨Nat.zero_le _, Nat.zero_le _⟩) hP hD hS hA (fun H locs hP hD hS => ?_)
      refine lv_iinc (v := (4 : Int32)) (lv' := [(3, .int (4 : Int32)), (0, .ref (q 0)), (1, .int a1), (2, .int a2)]) hx hb dX4_load_50 hl (k := 0) rfl (by decide) (by decide) rfl (fun ls hl => ?_)
      refine lv_goto (tgt := 28) hx hb dX4_load_53 (by decide) ?_
      refine lv_iload_n hx hb dX4_load_28 rfl (lv_at hl 0 rfl) ?_
      refine lv_iconst (v := (4 : Int32)) hx hb dX4_load_29 (by decide) ?_
      refine lv_icmp_ge (tgt := 56) hx hb dX4_load_30 (by decide) (fun _ => ?_) (fun h => absurd (by decide) h)
      refine lv_iconst (v := (1 : Int32)) hx hb dX4_load_56 (by decide) ?_
      exact rku_z (v := true) (F := (f_X4_load nW nB E a1 a2)) (E1 := (f_X1_put nW nB (f_X1_put nW nB (f_X1_put nW nB (f_X1_put nW nB E (a1 + (0 : Int32)) (1 : Int32) (jushr a2 ((8 : Int32) * (0 : Int32)))) (a1 + (1 : Int32)) (1 : Int32) (jushr a2 ((8 : Int32) * (1 : Int32)))) (a1 + (2 : Int32)) (1 : Int32) (jushr a2 ((8 : Int32) * (2 : Int32)))) (a1 + (3 : Int32)) (1 : Int32) (jushr a2 ((8 : Int32) * (3 : Int32))))) (by unfold f_X4_load; rw [if_neg c_1, if_neg c_2]; try rfl) X hP hD hS hAe hr hlk dX4_load_57
    ·
      refine lv_iconst (v := (0 : Int32)) hx hb dX4_load_24 (by decide) ?_
      exact rku_z (v := false) (F := (f_X4_load nW nB E a1 a2)) (E1 := E) (by unfold f_X4_load; rw [if_neg c_1, if_pos c_2]; try rfl) X hP hD hS hAe hr hlk dX4_load_25
set_option maxHeartbeats 4000000 in
set_option maxRecDepth 100000 in
theorem c_X2_byteAt (l : Launch) (D : va_G) (q : Nat → Nat) (ca : Nat → ClassId) (nW nB : Nat) (hk : KOk nW nB) (E : KS) (a1 : Int32) : Mt l yX2_byteAt cX2_byteAt 2 (some .int) 0 D (tysK ca) [.ref (q 4), .int a1] (cwK q ca nW nB E) (QcI D (cwK q ca nW nB E) (cwK q ca nW nB E) (f_X2_byteAt nW nB E a1)) := by
  refine ent (own := RX2) rfl (by decide) (Nat.le_of_ble_eq_true rfl) ?_
  intro p e s m below meth c A ls X hr hlk hmn hAe hA hP hD hS hl
  have hx := X.1.1
  have hb := X.1.2.1
  have hl : lv_has ls 2 [(0, .ref (q 4)), (1, .int a1)] := hl
  refine lv_iload_n hx hb dX2_byteAt_0 rfl (lv_at hl 1 rfl) ?_
  refine lv_if_lt (tgt := 34) hx hb dX2_byteAt_1 (by decide) (fun c_1 => ?_) (fun c_1 => ?_)
  ·
    refine lv_iconst (v := (-1 : Int32)) hx hb dX2_byteAt_34 (by decide) ?_
    exact rg_i (v := (-1 : Int32)) (F := (f_X2_byteAt nW nB E a1)) (by unfold f_X2_byteAt; rw [if_pos c_1]; try rfl) X hP hD hS hAe hr hlk dX2_byteAt_35
  ·
    refine lv_iload_n hx hb dX2_byteAt_4 rfl (lv_at hl 1 rfl) ?_
    refine lv_aload_n hx hb dX2_byteAt_5 rfl (lv_at hl 0 rfl) ?_
    refine gf_X2_13 X hP dX2_byteAt_6 ?_
    refine lv_icmp_ge (tgt := 34) hx hb dX2_byteAt_9 (by decide) (fun c_2 => ?_) (fun c_2 => ?_)
    ·
      refine lv_iconst (v := (-1 : Int32)) hx hb dX2_byteAt_34 (by decide) ?_
      exact rg_i (v := (-1 : Int32)) (F := (f_X2_byteAt nW nB E a1)) (by unfold f_X2_byteAt; rw [if_neg c_1, if_pos c_2]; try rfl) X hP hD hS hAe hr hlk dX2_byteAt_35
    ·
      refine lv_iload_n hx hb dX2_byteAt_12 rfl (lv_at hl 1 rfl) ?_
      refine lv_aload_n hx hb dX2_byteAt_13 rfl (lv_at hl 0 rfl) ?_
      refine gf_X2_7 X hP dX2_byteAt_14 ?_
      refine klen_5 X hP dX2_byteAt_17 ?_
      refine lv_icmp_ge (tgt := 34) hx hb dX2_byteAt_18 (by decide) (fun c_3 => ?_) (fun c_3 => ?_)
      ·
        refine lv_iconst (v := (-1 : Int32)) hx hb dX2_byteAt_34 (by decide) ?_
        exact rg_i (v := (-1 : Int32)) (F := (f_X2_byteAt nW nB E a1)) (by unfold f_X2_byteAt; rw [if_neg c_1, if_neg c_2, if_pos c_3]; try rfl) X hP hD hS hAe hr hlk dX2_byteAt_35
      ·
        refine lv_aload_n hx hb dX2_byteAt_21 rfl (lv_at hl 0 rfl) ?_
        refine gf_X2_7 X hP dX2_byteAt_22 ?_
        refine lv_iload_n hx hb dX2_byteAt_25 rfl (lv_at hl 1 rfl) ?_
        refine kld_5 X hP (in_of_nle c_1 c_3 hk.2) dX2_byteAt_26 ?_
        refine lv_sipush (v := (255 : Int32)) hx hb dX2_byteAt_27 (by decide) ?_
        refine lv_iand hx hb dX2_byteAt_30 ?_
        refine lv_goto (tgt := 35) hx hb dX2_byteAt_31 (by decide) ?_
        exact rg_i (v := ((kbytes E (a1).toNatClampNeg) &&& (255 : Int32))) (F := (f_X2_byteAt nW nB E a1)) (by unfold f_X2_byteAt; rw [if_neg c_1, if_neg c_2, if_neg c_3]; try rfl) X hP hD hS hAe hr hlk dX2_byteAt_35
set_option maxHeartbeats 4000000 in
set_option maxRecDepth 100000 in
theorem c_X4_out (l : Launch) (D : va_G) (q : Nat → Nat) (ca : Nat → ClassId) (nW nB : Nat) (hk : KOk nW nB) (E : KS) (a1 : Int32) : Mt l yX4_out cX4_out 2 (some .int) 1 D (tysK ca) [.ref (q 0), .int a1] (cwK q ca nW nB E) (QcI D (cwK q ca nW nB E) (cwK q ca nW nB E) (f_X4_out nW nB E a1)) := by
  refine ent (own := RX4) rfl (by decide) (Nat.le_of_ble_eq_true rfl) ?_
  intro p e s m below meth c A ls X hr hlk hmn hAe hA hP hD hS hl
  have hx := X.1.1
  have hb := X.1.2.1
  have hl : lv_has ls 2 [(0, .ref (q 0)), (1, .int a1)] := hl
  refine lv_aload_n hx hb dX4_out_0 rfl (lv_at hl 0 rfl) ?_
  refine gf_X4_38 X hP dX4_out_1 ?_
  refine lv_iload_n hx hb dX4_out_4 rfl (lv_at hl 1 rfl) ?_
  refine go_i (rn_V (ci := 2) (q0 := 4) X (c_X2_byteAt l D q ca nW nB hk E a1) ok_X2_byteAt wd_450 ⟨by decide, by decide⟩ hP hD rfl rfl rfl hl.1 rfl (Nat.le_of_ble_eq_true rfl) dX4_out_5 ⟨Nat.zero_le _, Nat.zero_le _⟩) hP hD hS hA (fun H locs hP hD hS => ?_)
  exact rg_i (v := (f_X2_byteAt nW nB E a1)) (F := (f_X4_out nW nB E a1)) rfl X hP hD hS hAe hr hlk dX4_out_8
set_option maxHeartbeats 4000000 in
set_option maxRecDepth 100000 in
theorem c_X4_outSize (l : Launch) (D : va_G) (q : Nat → Nat) (ca : Nat → ClassId) (nW nB : Nat) (hk : KOk nW nB) (E : KS) : Mt l yX4_outSize cX4_outSize 1 (some .int) 0 D (tysK ca) [.ref (q 0)] (cwK q ca nW nB E) (QcI D (cwK q ca nW nB E) (cwK q ca nW nB E) (f_X4_outSize nW nB E)) := by
  refine ent (own := RX4) rfl (by decide) (Nat.le_of_ble_eq_true rfl) ?_
  intro p e s m below meth c A ls X hr hlk hmn hAe hA hP hD hS hl
  have hx := X.1.1
  have hb := X.1.2.1
  have hl : lv_has ls 1 [(0, .ref (q 0))] := hl
  refine lv_aload_n hx hb dX4_outSize_0 rfl (lv_at hl 0 rfl) ?_
  refine gf_X4_38 X hP dX4_outSize_1 ?_
  refine gf_X4_111 X hP dX4_outSize_4 ?_
  exact rg_i (v := (ksent E)) (F := (f_X4_outSize nW nB E)) rfl X hP hD hS hAe hr hlk dX4_outSize_7
set_option maxHeartbeats 4000000 in
set_option maxRecDepth 100000 in
theorem c_X4_pc (l : Launch) (D : va_G) (q : Nat → Nat) (ca : Nat → ClassId) (nW nB : Nat) (hk : KOk nW nB) (E : KS) : Mt l yX4_pc cX4_pc 1 (some .int) 0 D (tysK ca) [.ref (q 0)] (cwK q ca nW nB E) (QcI D (cwK q ca nW nB E) (cwK q ca nW nB E) (f_X4_pc nW nB E)) := by
  refine ent (own := RX4) rfl (by decide) (Nat.le_of_ble_eq_true rfl) ?_
  intro p e s m below meth c A ls X hr hlk hmn hAe hA hP hD hS hl
  have hx := X.1.1
  have hb := X.1.2.1
  have hl : lv_has ls 1 [(0, .ref (q 0))] := hl
  refine lv_aload_n hx hb dX4_pc_0 rfl (lv_at hl 0 rfl) ?_
  refine gf_X4_56 X hP dX4_pc_1 ?_
  exact rg_i (v := (kplace E)) (F := (f_X4_pc nW nB E)) rfl X hP hD hS hAe hr hlk dX4_pc_4
set_option maxHeartbeats 4000000 in
set_option maxRecDepth 100000 in
theorem c_X1_get (l : Launch) (D : va_G) (q : Nat → Nat) (ca : Nat → ClassId) (nW nB : Nat) (hk : KOk nW nB) (E : KS) (a1 : Int32) (a2 : Int32) (hi : vp_in (a1 >>> ((2 : Int32) &&& 31)) nW) : Mt l yX1_get cX1_get 3 (some .int) 1 D (tysK ca) [.ref (q 1), .int a1, .int a2] (cwK q ca nW nB E) (QcI D (cwK q ca nW nB E) (cwK q ca nW nB E) (f_X1_get nW nB E a1 a2)) := by
  refine ent (own := RX1) rfl (by decide) (Nat.le_of_ble_eq_true rfl) ?_
  intro p e s m below meth c A ls X hr hlk hmn hAe hA hP hD hS hl
  have hx := X.1.1
  have hb := X.1.2.1
  have hl : lv_has ls 3 [(0, .ref (q 1)), (1, .int a1), (2, .int a2)] := hl
  refine lv_aload_n hx hb dX1_get_0 rfl (lv_at hl 0 rfl) ?_
  refine gf_X1_7 X hP dX1_get_1 ?_
  refine lv_iload_n hx hb dX1_get_4 rfl (lv_at hl 1 rfl) ?_
  refine lv_iconst (v := (2 : Int32)) hx hb dX1_get_5 (by decide) ?_
  refine lv_ishr hx hb dX1_get_6 ?_
  refine kld_2 X hP hi dX1_get_7 ?_
  refine lv_iload_n hx hb dX1_get_8 rfl (lv_at hl 1 rfl) ?_
  refine go_i (rn_S X (c_X1_shift l D _ _ a1) ok_X1_shift wd_198 ⟨by decide, by decide⟩ hP hD rfl hl.1 rfl (Nat.le_of_ble_eq_true rfl) dX1_get_9 ⟨Nat.zero_le _, Nat.zero_le _⟩) hP hD hS hA (fun H locs hP hD hS => ?_)
  refine lv_iushr (v := (jushr (kwords E ((a1 >>> ((2 : Int32) &&& 31))).toNatClampNeg) (f_X1_shift a1))) hx hb dX1_get_12 rfl ?_
  refine lv_iload_n hx hb dX1_get_13 rfl (lv_at hl 2 rfl) ?_
  refine go_i (rn_S X (c_X1_mask l D _ _ a2) ok_X1_mask wd_195 ⟨by decide, by decide⟩ hP hD rfl hl.1 rfl (Nat.le_of_ble_eq_true rfl) dX1_get_14 ⟨Nat.zero_le _, Nat.zero_le _⟩) hP hD hS hA (fun H locs hP hD hS => ?_)
  refine lv_iand hx hb dX1_get_17 ?_
  exact rg_i (v := ((jushr (kwords E ((a1 >>> ((2 : Int32) &&& 31))).toNatClampNeg) (f_X1_shift a1)) &&& (f_X1_mask a2))) (F := (f_X1_get nW nB E a1 a2)) rfl X hP hD hS hAe hr hlk dX1_get_18
set_option maxHeartbeats 4000000 in
set_option maxRecDepth 100000 in
theorem c_X4_peek (l : Launch) (D : va_G) (q : Nat → Nat) (ca : Nat → ClassId) (nW nB : Nat) (hk : KOk nW nB) (E : KS) (a1 : Int32) : Mt l yX4_peek cX4_peek 2 (some .int) 2 D (tysK ca) [.ref (q 0), .int a1] (cwK q ca nW nB E) (QcI D (cwK q ca nW nB E) (cwK q ca nW nB E) (f_X4_peek nW nB E a1)) := by
  refine ent (own := RX4) rfl (by decide) (Nat.le_of_ble_eq_true rfl) ?_
  intro p e s m below meth c A ls X hr hlk hmn hAe hA hP hD hS hl
  have hx := X.1.1
  have hb := X.1.2.1
  have hl : lv_has ls 2 [(0, .ref (q 0)), (1, .int a1)] := hl
  refine lv_aload_n hx hb dX4_peek_0 rfl (lv_at hl 0 rfl) ?_
  refine gf_X4_24 X hP dX4_peek_1 ?_
  refine lv_iload_n hx hb dX4_peek_4 rfl (lv_at hl 1 rfl) ?_
  refine go_i (rn_V (ci := 1) (q0 := 1) X (c_X1_holds l D q ca nW nB hk E a1) ok_X1_holds wd_187 ⟨by decide, by decide⟩ hP hD rfl rfl rfl hl.1 rfl (Nat.le_of_ble_eq_true rfl) dX4_peek_5 ⟨Nat.zero_le _, Nat.zero_le _⟩) hP hD hS hA (fun H locs hP hD hS => ?_)
  refine lv_if_eq (tgt := 23) hx hb dX4_peek_8 (by decide) (fun c_1 => ?_) (fun c_1 => ?_)
  ·
    refine lv_iconst (v := (-1 : Int32)) hx hb dX4_peek_23 (by decide) ?_
    exact rg_i (v := (-1 : Int32)) (F := (f_X4_peek nW nB E a1)) (by unfold f_X4_peek; rw [if_pos c_1]; try rfl) X hP hD hS hAe hr hlk dX4_peek_24
  ·
    refine lv_aload_n hx hb dX4_peek_11 rfl (lv_at hl 0 rfl) ?_
    refine gf_X4_24 X hP dX4_peek_12 ?_
    refine lv_iload_n hx hb dX4_peek_15 rfl (lv_at hl 1 rfl) ?_
    refine lv_iconst (v := (1 : Int32)) hx hb dX4_peek_16 (by decide) ?_
    refine go_i (rn_V (ci := 1) (q0 := 1) X (c_X1_get l D q ca nW nB hk E a1 (1 : Int32) (in_of_holds hk c_1)) ok_X1_get wd_209 ⟨by decide, by decide⟩ hP hD rfl rfl rfl hl.1 rfl (Nat.le_of_ble_eq_true rfl) dX4_peek_17 ⟨Nat.zero_le _, Nat.zero_le _⟩) hP hD hS hA (fun H locs hP hD hS => ?_)
    refine lv_goto (tgt := 24) hx hb dX4_peek_20 (by decide) ?_
    exact rg_i (v := (f_X1_get nW nB E a1 (1 : Int32))) (F := (f_X4_peek nW nB E a1)) (by unfold f_X4_peek; rw [if_neg c_1]; try rfl) X hP hD hS hAe hr hlk dX4_peek_24
set_option maxHeartbeats 4000000 in
set_option maxRecDepth 100000 in
theorem c_X4_poke (l : Launch) (D : va_G) (q : Nat → Nat) (ca : Nat → ClassId) (nW nB : Nat) (hk : KOk nW nB) (E : KS) (a1 : Int32) (a2 : Int32) : Mt l yX4_poke cX4_poke 3 (some .boolean) 2 D (tysK ca) [.ref (q 0), .int a1, .int a2] (cwK q ca nW nB E) (QcI D (cwK q ca nW nB E) (cwK q ca nW nB (f_X4_poke nW nB E a1 a2).2) (b2i (f_X4_poke nW nB E a1 a2).1)) := by
  refine ent (own := RX4) rfl (by decide) (Nat.le_of_ble_eq_true rfl) ?_
  intro p e s m below meth c A ls X hr hlk hmn hAe hA hP hD hS hl
  have hx := X.1.1
  have hb := X.1.2.1
  have hl : lv_has ls 3 [(0, .ref (q 0)), (1, .int a1), (2, .int a2)] := hl
  refine lv_aload_n hx hb dX4_poke_0 rfl (lv_at hl 0 rfl) ?_
  refine gf_X4_24 X hP dX4_poke_1 ?_
  refine lv_iload_n hx hb dX4_poke_4 rfl (lv_at hl 1 rfl) ?_
  refine go_i (rn_V (ci := 1) (q0 := 1) X (c_X1_holds l D q ca nW nB hk E a1) ok_X1_holds wd_187 ⟨by decide, by decide⟩ hP hD rfl rfl rfl hl.1 rfl (Nat.le_of_ble_eq_true rfl) dX4_poke_5 ⟨Nat.zero_le _, Nat.zero_le _⟩) hP hD hS hA (fun H locs hP hD hS => ?_)
  refine lv_if_ne (tgt := 13) hx hb dX4_poke_8 (by decide) (fun c_1 => ?_) (fun c_1 => ?_)
  ·
    refine lv_aload_n hx hb dX4_poke_13 rfl (lv_at hl 0 rfl) ?_
    refine gf_X4_24 X hP dX4_poke_14 ?_
    refine lv_iload_n hx hb dX4_poke_17 rfl (lv_at hl 1 rfl) ?_
    refine lv_iconst (v := (1 : Int32)) hx hb dX4_poke_18 (by decide) ?_
    refine lv_iload_n hx hb dX4_poke_19 rfl (lv_at hl 2 rfl) ?_
    refine go_v (rn_V (ci := 1) (q0 := 1) X (c_X1_put l D q ca nW nB hk E a1 (1 : Int32) a2 (in_of_holds hk c_1)) ok_X1_put wd_191 ⟨by decide, by decide⟩ hP hD rfl rfl rfl hl.1 rfl (Nat.le_of_ble_eq_true rfl) dX4_poke_20 ⟨Nat.zero_le _, Nat.zero_le _⟩) hP hD hS hA (fun H locs hP hD hS => ?_)
    refine lv_iconst (v := (1 : Int32)) hx hb dX4_poke_23 (by decide) ?_
    exact rku_z (v := true) (F := (f_X4_poke nW nB E a1 a2)) (E1 := (f_X1_put nW nB E a1 (1 : Int32) a2)) (by unfold f_X4_poke; rw [if_neg c_1]; try rfl) X hP hD hS hAe hr hlk dX4_poke_24
  ·
    refine lv_iconst (v := (0 : Int32)) hx hb dX4_poke_11 (by decide) ?_
    exact rku_z (v := false) (F := (f_X4_poke nW nB E a1 a2)) (E1 := E) (by unfold f_X4_poke; rw [if_pos c_1]; try rfl) X hP hD hS hAe hr hlk dX4_poke_12
end
