/-! PART A of the skeleton, and names (printed by TURN) -/
def lw_okq (q : MethodName × Nat) : Prop := (q.1.cls ≠ "java/lang/invoke/MethodHandle" ∧ q.1.cls ≠ "java/lang/invoke/VarHandle") ∧ Cond.instantiable q.1.cls q.2 ∈ tables_1 ∧ Cond.privateMethod q.1 ∈ tables_1 ∧ Cond.instanceMethod q.1 ∈ tables_1
theorem lw_p0 : lw_okq (⟨"RvCore", "stepOnce", "()I"⟩, 9) := ⟨⟨by decide +kernel, by decide +kernel⟩, List.mem_of_getElem? (i := 11) (by decide +kernel), List.mem_of_getElem? (i := 179) (by decide +kernel), List.mem_of_getElem? (i := 180) (by decide +kernel)⟩
theorem lw_p1 : lw_okq (⟨"RvCore", "instruct", "()I"⟩, 9) := ⟨⟨by decide +kernel, by decide +kernel⟩, List.mem_of_getElem? (i := 11) (by decide +kernel), List.mem_of_getElem? (i := 207) (by decide +kernel), List.mem_of_getElem? (i := 208) (by decide +kernel)⟩
theorem lw_p2 : lw_okq (⟨"RvCore", "trap", "(II)I"⟩, 9) := ⟨⟨by decide +kernel, by decide +kernel⟩, List.mem_of_getElem? (i := 11) (by decide +kernel), List.mem_of_getElem? (i := 211) (by decide +kernel), List.mem_of_getElem? (i := 212) (by decide +kernel)⟩
theorem lw_p3 : lw_okq (⟨"RvCore", "retire", "(II)I"⟩, 9) := ⟨⟨by decide +kernel, by decide +kernel⟩, List.mem_of_getElem? (i := 11) (by decide +kernel), List.mem_of_getElem? (i := 215) (by decide +kernel), List.mem_of_getElem? (i := 216) (by decide +kernel)⟩
theorem lw_p4 : lw_okq (⟨"RvCore", "setD", "(II)V"⟩, 9) := ⟨⟨by decide +kernel, by decide +kernel⟩, List.mem_of_getElem? (i := 11) (by decide +kernel), List.mem_of_getElem? (i := 219) (by decide +kernel), List.mem_of_getElem? (i := 220) (by decide +kernel)⟩
theorem lw_p5 : lw_okq (⟨"RvCore", "retireAt", "(I)I"⟩, 9) := ⟨⟨by decide +kernel, by decide +kernel⟩, List.mem_of_getElem? (i := 11) (by decide +kernel), List.mem_of_getElem? (i := 223) (by decide +kernel), List.mem_of_getElem? (i := 224) (by decide +kernel)⟩
theorem lw_p6 : lw_okq (⟨"RvCore", "jump", "(II)I"⟩, 9) := ⟨⟨by decide +kernel, by decide +kernel⟩, List.mem_of_getElem? (i := 11) (by decide +kernel), List.mem_of_getElem? (i := 231) (by decide +kernel), List.mem_of_getElem? (i := 232) (by decide +kernel)⟩
theorem lw_p7 : lw_okq (⟨"RvCore", "a", "(I)I"⟩, 9) := ⟨⟨by decide +kernel, by decide +kernel⟩, List.mem_of_getElem? (i := 11) (by decide +kernel), List.mem_of_getElem? (i := 238) (by decide +kernel), List.mem_of_getElem? (i := 239) (by decide +kernel)⟩
theorem lw_p8 : lw_okq (⟨"RvCore", "illegal", "(I)I"⟩, 9) := ⟨⟨by decide +kernel, by decide +kernel⟩, List.mem_of_getElem? (i := 11) (by decide +kernel), List.mem_of_getElem? (i := 248) (by decide +kernel), List.mem_of_getElem? (i := 249) (by decide +kernel)⟩
theorem lw_p9 : lw_okq (⟨"RvCore", "branch", "(I)I"⟩, 9) := ⟨⟨by decide +kernel, by decide +kernel⟩, List.mem_of_getElem? (i := 11) (by decide +kernel), List.mem_of_getElem? (i := 252) (by decide +kernel), List.mem_of_getElem? (i := 253) (by decide +kernel)⟩
theorem lw_p10 : lw_okq (⟨"RvCore", "b", "(I)I"⟩, 9) := ⟨⟨by decide +kernel, by decide +kernel⟩, List.mem_of_getElem? (i := 11) (by decide +kernel), List.mem_of_getElem? (i := 256) (by decide +kernel), List.mem_of_getElem? (i := 257) (by decide +kernel)⟩
theorem lw_p11 : lw_okq (⟨"RvCore", "read", "(I)I"⟩, 9) := ⟨⟨by decide +kernel, by decide +kernel⟩, List.mem_of_getElem? (i := 11) (by decide +kernel), List.mem_of_getElem? (i := 276) (by decide +kernel), List.mem_of_getElem? (i := 277) (by decide +kernel)⟩
theorem lw_p12 : lw_okq (⟨"RvCore", "store", "(I)I"⟩, 9) := ⟨⟨by decide +kernel, by decide +kernel⟩, List.mem_of_getElem? (i := 11) (by decide +kernel), List.mem_of_getElem? (i := 305) (by decide +kernel), List.mem_of_getElem? (i := 306) (by decide +kernel)⟩
theorem lw_p13 : lw_okq (⟨"RvCore", "reckonWithNumber", "(I)I"⟩, 9) := ⟨⟨by decide +kernel, by decide +kernel⟩, List.mem_of_getElem? (i := 11) (by decide +kernel), List.mem_of_getElem? (i := 329) (by decide +kernel), List.mem_of_getElem? (i := 330) (by decide +kernel)⟩
theorem lw_p14 : lw_okq (⟨"RvCore", "reckonWithRegister", "(I)I"⟩, 9) := ⟨⟨by decide +kernel, by decide +kernel⟩, List.mem_of_getElem? (i := 11) (by decide +kernel), List.mem_of_getElem? (i := 339) (by decide +kernel), List.mem_of_getElem? (i := 340) (by decide +kernel)⟩
theorem lw_p15 : lw_okq (⟨"RvCore", "system", "(I)I"⟩, 9) := ⟨⟨by decide +kernel, by decide +kernel⟩, List.mem_of_getElem? (i := 11) (by decide +kernel), List.mem_of_getElem? (i := 350) (by decide +kernel), List.mem_of_getElem? (i := 351) (by decide +kernel)⟩
def lw_privs_1 : List (MethodName × Nat) := [(⟨"RvCore", "stepOnce", "()I"⟩, 9), (⟨"RvCore", "instruct", "()I"⟩, 9), (⟨"RvCore", "trap", "(II)I"⟩, 9), (⟨"RvCore", "retire", "(II)I"⟩, 9), (⟨"RvCore", "setD", "(II)V"⟩, 9), (⟨"RvCore", "retireAt", "(I)I"⟩, 9), (⟨"RvCore", "jump", "(II)I"⟩, 9), (⟨"RvCore", "a", "(I)I"⟩, 9), (⟨"RvCore", "illegal", "(I)I"⟩, 9), (⟨"RvCore", "branch", "(I)I"⟩, 9), (⟨"RvCore", "b", "(I)I"⟩, 9), (⟨"RvCore", "read", "(I)I"⟩, 9), (⟨"RvCore", "store", "(I)I"⟩, 9), (⟨"RvCore", "reckonWithNumber", "(I)I"⟩, 9), (⟨"RvCore", "reckonWithRegister", "(I)I"⟩, 9), (⟨"RvCore", "system", "(I)I"⟩, 9)]
theorem lw_r1 : ∀ q ∈ lw_privs_1, lw_okq q := List.forall_mem_cons.mpr ⟨lw_p0, List.forall_mem_cons.mpr ⟨lw_p1, List.forall_mem_cons.mpr ⟨lw_p2, List.forall_mem_cons.mpr ⟨lw_p3, List.forall_mem_cons.mpr ⟨lw_p4, List.forall_mem_cons.mpr ⟨lw_p5, List.forall_mem_cons.mpr ⟨lw_p6, List.forall_mem_cons.mpr ⟨lw_p7, List.forall_mem_cons.mpr ⟨lw_p8, List.forall_mem_cons.mpr ⟨lw_p9, List.forall_mem_cons.mpr ⟨lw_p10, List.forall_mem_cons.mpr ⟨lw_p11, List.forall_mem_cons.mpr ⟨lw_p12, List.forall_mem_cons.mpr ⟨lw_p13, List.forall_mem_cons.mpr ⟨lw_p14, List.forall_mem_cons.mpr ⟨lw_p15, fun _ h => absurd h List.not_mem_nil⟩⟩⟩⟩⟩⟩⟩⟩⟩⟩⟩⟩⟩⟩⟩⟩
theorem lw_p16 : lw_okq (⟨"RvCore", "control", "(I)I"⟩, 9) := ⟨⟨by decide +kernel, by decide +kernel⟩, List.mem_of_getElem? (i := 11) (by decide +kernel), List.mem_of_getElem? (i := 358) (by decide +kernel), List.mem_of_getElem? (i := 359) (by decide +kernel)⟩
theorem lw_p17 : lw_okq (⟨"RvCoreModel", "isThere", "(II)Z"⟩, 27) := ⟨⟨by decide +kernel, by decide +kernel⟩, List.mem_of_getElem? (i := 419) (by decide +kernel), List.mem_of_getElem? (i := 518) (by decide +kernel), List.mem_of_getElem? (i := 519) (by decide +kernel)⟩
theorem lw_p18 : lw_okq (⟨"RvCoreModel", "put", "(III)V"⟩, 27) := ⟨⟨by decide +kernel, by decide +kernel⟩, List.mem_of_getElem? (i := 419) (by decide +kernel), List.mem_of_getElem? (i := 526) (by decide +kernel), List.mem_of_getElem? (i := 527) (by decide +kernel)⟩
theorem lw_p19 : lw_okq (⟨"RvCoreModel", "isDue", "()Z"⟩, 27) := ⟨⟨by decide +kernel, by decide +kernel⟩, List.mem_of_getElem? (i := 419) (by decide +kernel), List.mem_of_getElem? (i := 539) (by decide +kernel), List.mem_of_getElem? (i := 540) (by decide +kernel)⟩
theorem lw_p20 : lw_okq (⟨"RvCoreModel", "once", "()I"⟩, 27) := ⟨⟨by decide +kernel, by decide +kernel⟩, List.mem_of_getElem? (i := 419) (by decide +kernel), List.mem_of_getElem? (i := 548) (by decide +kernel), List.mem_of_getElem? (i := 549) (by decide +kernel)⟩
theorem lw_p21 : lw_okq (⟨"RvCoreModel", "trap", "(II)I"⟩, 27) := ⟨⟨by decide +kernel, by decide +kernel⟩, List.mem_of_getElem? (i := 419) (by decide +kernel), List.mem_of_getElem? (i := 554) (by decide +kernel), List.mem_of_getElem? (i := 555) (by decide +kernel)⟩
theorem lw_p22 : lw_okq (⟨"RvCoreModel", "instruction", "()I"⟩, 27) := ⟨⟨by decide +kernel, by decide +kernel⟩, List.mem_of_getElem? (i := 419) (by decide +kernel), List.mem_of_getElem? (i := 558) (by decide +kernel), List.mem_of_getElem? (i := 559) (by decide +kernel)⟩
theorem lw_p23 : lw_okq (⟨"RvCoreModel", "get", "(II)I"⟩, 27) := ⟨⟨by decide +kernel, by decide +kernel⟩, List.mem_of_getElem? (i := 419) (by decide +kernel), List.mem_of_getElem? (i := 562) (by decide +kernel), List.mem_of_getElem? (i := 563) (by decide +kernel)⟩
theorem lw_p24 : lw_okq (⟨"RvCoreModel", "work", "()I"⟩, 27) := ⟨⟨by decide +kernel, by decide +kernel⟩, List.mem_of_getElem? (i := 419) (by decide +kernel), List.mem_of_getElem? (i := 566) (by decide +kernel), List.mem_of_getElem? (i := 567) (by decide +kernel)⟩
theorem lw_p25 : lw_okq (⟨"RvCoreModel", "become", "(I)I"⟩, 27) := ⟨⟨by decide +kernel, by decide +kernel⟩, List.mem_of_getElem? (i := 419) (by decide +kernel), List.mem_of_getElem? (i := 570) (by decide +kernel), List.mem_of_getElem? (i := 571) (by decide +kernel)⟩
theorem lw_p26 : lw_okq (⟨"RvCoreModel", "goTo", "(IZ)I"⟩, 27) := ⟨⟨by decide +kernel, by decide +kernel⟩, List.mem_of_getElem? (i := 419) (by decide +kernel), List.mem_of_getElem? (i := 575) (by decide +kernel), List.mem_of_getElem? (i := 576) (by decide +kernel)⟩
theorem lw_p27 : lw_okq (⟨"RvCoreModel", "immediate", "()I"⟩, 27) := ⟨⟨by decide +kernel, by decide +kernel⟩, List.mem_of_getElem? (i := 419) (by decide +kernel), List.mem_of_getElem? (i := 579) (by decide +kernel), List.mem_of_getElem? (i := 580) (by decide +kernel)⟩
theorem lw_p28 : lw_okq (⟨"RvCoreModel", "illegal", "()I"⟩, 27) := ⟨⟨by decide +kernel, by decide +kernel⟩, List.mem_of_getElem? (i := 419) (by decide +kernel), List.mem_of_getElem? (i := 583) (by decide +kernel), List.mem_of_getElem? (i := 584) (by decide +kernel)⟩
theorem lw_p29 : lw_okq (⟨"RvCoreModel", "branch", "()I"⟩, 27) := ⟨⟨by decide +kernel, by decide +kernel⟩, List.mem_of_getElem? (i := 419) (by decide +kernel), List.mem_of_getElem? (i := 587) (by decide +kernel), List.mem_of_getElem? (i := 588) (by decide +kernel)⟩
theorem lw_p30 : lw_okq (⟨"RvCoreModel", "read", "()I"⟩, 27) := ⟨⟨by decide +kernel, by decide +kernel⟩, List.mem_of_getElem? (i := 419) (by decide +kernel), List.mem_of_getElem? (i := 595) (by decide +kernel), List.mem_of_getElem? (i := 596) (by decide +kernel)⟩
theorem lw_p31 : lw_okq (⟨"RvCoreModel", "store", "()I"⟩, 27) := ⟨⟨by decide +kernel, by decide +kernel⟩, List.mem_of_getElem? (i := 419) (by decide +kernel), List.mem_of_getElem? (i := 610) (by decide +kernel), List.mem_of_getElem? (i := 611) (by decide +kernel)⟩
def lw_privs_2 : List (MethodName × Nat) := [(⟨"RvCore", "control", "(I)I"⟩, 9), (⟨"RvCoreModel", "isThere", "(II)Z"⟩, 27), (⟨"RvCoreModel", "put", "(III)V"⟩, 27), (⟨"RvCoreModel", "isDue", "()Z"⟩, 27), (⟨"RvCoreModel", "once", "()I"⟩, 27), (⟨"RvCoreModel", "trap", "(II)I"⟩, 27), (⟨"RvCoreModel", "instruction", "()I"⟩, 27), (⟨"RvCoreModel", "get", "(II)I"⟩, 27), (⟨"RvCoreModel", "work", "()I"⟩, 27), (⟨"RvCoreModel", "become", "(I)I"⟩, 27), (⟨"RvCoreModel", "goTo", "(IZ)I"⟩, 27), (⟨"RvCoreModel", "immediate", "()I"⟩, 27), (⟨"RvCoreModel", "illegal", "()I"⟩, 27), (⟨"RvCoreModel", "branch", "()I"⟩, 27), (⟨"RvCoreModel", "read", "()I"⟩, 27), (⟨"RvCoreModel", "store", "()I"⟩, 27)]
theorem lw_r2 : ∀ q ∈ lw_privs_2, lw_okq q := List.forall_mem_cons.mpr ⟨lw_p16, List.forall_mem_cons.mpr ⟨lw_p17, List.forall_mem_cons.mpr ⟨lw_p18, List.forall_mem_cons.mpr ⟨lw_p19, List.forall_mem_cons.mpr ⟨lw_p20, List.forall_mem_cons.mpr ⟨lw_p21, List.forall_mem_cons.mpr ⟨lw_p22, List.forall_mem_cons.mpr ⟨lw_p23, List.forall_mem_cons.mpr ⟨lw_p24, List.forall_mem_cons.mpr ⟨lw_p25, List.forall_mem_cons.mpr ⟨lw_p26, List.forall_mem_cons.mpr ⟨lw_p27, List.forall_mem_cons.mpr ⟨lw_p28, List.forall_mem_cons.mpr ⟨lw_p29, List.forall_mem_cons.mpr ⟨lw_p30, List.forall_mem_cons.mpr ⟨lw_p31, fun _ h => absurd h List.not_mem_nil⟩⟩⟩⟩⟩⟩⟩⟩⟩⟩⟩⟩⟩⟩⟩⟩
theorem lw_p32 : lw_okq (⟨"RvCoreModel", "reckonBy", "(I)I"⟩, 27) := ⟨⟨by decide +kernel, by decide +kernel⟩, List.mem_of_getElem? (i := 419) (by decide +kernel), List.mem_of_getElem? (i := 618) (by decide +kernel), List.mem_of_getElem? (i := 619) (by decide +kernel)⟩
theorem lw_p33 : lw_okq (⟨"RvCoreModel", "reckon", "(II)I"⟩, 27) := ⟨⟨by decide +kernel, by decide +kernel⟩, List.mem_of_getElem? (i := 419) (by decide +kernel), List.mem_of_getElem? (i := 622) (by decide +kernel), List.mem_of_getElem? (i := 623) (by decide +kernel)⟩
theorem lw_p34 : lw_okq (⟨"RvCoreModel", "reckonTwo", "()I"⟩, 27) := ⟨⟨by decide +kernel, by decide +kernel⟩, List.mem_of_getElem? (i := 419) (by decide +kernel), List.mem_of_getElem? (i := 626) (by decide +kernel), List.mem_of_getElem? (i := 627) (by decide +kernel)⟩
theorem lw_p35 : lw_okq (⟨"RvCoreModel", "multiplied", "(II)I"⟩, 27) := ⟨⟨by decide +kernel, by decide +kernel⟩, List.mem_of_getElem? (i := 419) (by decide +kernel), List.mem_of_getElem? (i := 630) (by decide +kernel), List.mem_of_getElem? (i := 631) (by decide +kernel)⟩
theorem lw_p36 : lw_okq (⟨"RvCoreModel", "system", "()I"⟩, 27) := ⟨⟨by decide +kernel, by decide +kernel⟩, List.mem_of_getElem? (i := 419) (by decide +kernel), List.mem_of_getElem? (i := 634) (by decide +kernel), List.mem_of_getElem? (i := 635) (by decide +kernel)⟩
theorem lw_p37 : lw_okq (⟨"RvCoreModel", "control", "()I"⟩, 27) := ⟨⟨by decide +kernel, by decide +kernel⟩, List.mem_of_getElem? (i := 419) (by decide +kernel), List.mem_of_getElem? (i := 638) (by decide +kernel), List.mem_of_getElem? (i := 639) (by decide +kernel)⟩
theorem lw_p38 : lw_okq (⟨"RvCoreModel", "setCsr", "(II)V"⟩, 27) := ⟨⟨by decide +kernel, by decide +kernel⟩, List.mem_of_getElem? (i := 419) (by decide +kernel), List.mem_of_getElem? (i := 645) (by decide +kernel), List.mem_of_getElem? (i := 646) (by decide +kernel)⟩
def lw_privs_3 : List (MethodName × Nat) := [(⟨"RvCoreModel", "reckonBy", "(I)I"⟩, 27), (⟨"RvCoreModel", "reckon", "(II)I"⟩, 27), (⟨"RvCoreModel", "reckonTwo", "()I"⟩, 27), (⟨"RvCoreModel", "multiplied", "(II)I"⟩, 27), (⟨"RvCoreModel", "system", "()I"⟩, 27), (⟨"RvCoreModel", "control", "()I"⟩, 27), (⟨"RvCoreModel", "setCsr", "(II)V"⟩, 27)]
theorem lw_r3 : ∀ q ∈ lw_privs_3, lw_okq q := List.forall_mem_cons.mpr ⟨lw_p32, List.forall_mem_cons.mpr ⟨lw_p33, List.forall_mem_cons.mpr ⟨lw_p34, List.forall_mem_cons.mpr ⟨lw_p35, List.forall_mem_cons.mpr ⟨lw_p36, List.forall_mem_cons.mpr ⟨lw_p37, List.forall_mem_cons.mpr ⟨lw_p38, fun _ h => absurd h List.not_mem_nil⟩⟩⟩⟩⟩⟩⟩
def lw_privs : List (MethodName × Nat) := lw_privs_1 ++ (lw_privs_2 ++ (lw_privs_3))
def lw_tbl : List Cond := k2_sels lw_privs ++ tables_1
theorem lw_privs_ok : ∀ q ∈ lw_privs, lw_okq q := by
  show ∀ q ∈ lw_privs_1 ++ (lw_privs_2 ++ (lw_privs_3)), lw_okq q
  exact List.forall_mem_append.mpr ⟨lw_r1, List.forall_mem_append.mpr ⟨lw_r2, lw_r3⟩⟩
def RX0 : String := "RvCore$Controls"
def TX0 : u_T := fun k => match k with
  | 0 => ("RvCore$Controls", "interruptsOn", "Z", false)
  | 1 => ("RvCore$Controls", "interruptsWereOn", "Z", false)
  | 2 => ("RvCore$Controls", "enabled", "I", false)
  | 3 => ("RvCore$Controls", "vector", "I", false)
  | 4 => ("RvCore$Controls", "scratch", "I", false)
  | 5 => ("RvCore$Controls", "wayBack", "I", false)
  | 6 => ("RvCore$Controls", "cause", "I", false)
  | _ => ("RvCore$Controls", "value", "I", false)
def tyX0 : Nat → FieldType := fun k => match k with
  | 0 => .boolean
  | 1 => .boolean
  | 2 => .int
  | 3 => .int
  | 4 => .int
  | 5 => .int
  | 6 => .int
  | _ => .int
theorem nmX0 : ∀ a, a < 8 → ∀ b, b < 8 → a ≠ b → (TX0 a).2.1 ≠ (TX0 b).2.1 := by decide +kernel
theorem tyX0_ok : ∀ k, k < 8 → parseFieldDescriptor (TX0 k).2.2.1 = some (tyX0 k) := by decide +kernel
abbrev cX0_init : ByteArray := prog_2_method_1_code
def yX0_init : MethodName := ⟨RX0, "<init>", "()V"⟩
abbrev cX0_restart : ByteArray := prog_2_method_2_code
def yX0_restart : MethodName := ⟨RX0, "restart", "()V"⟩
abbrev cX0_lists : ByteArray := prog_2_method_3_code
def yX0_lists : MethodName := ⟨RX0, "lists", "(I)Z"⟩
abbrev cX0_get : ByteArray := prog_2_method_4_code
def yX0_get : MethodName := ⟨RX0, "get", "(IZ)I"⟩
abbrev cX0_set : ByteArray := prog_2_method_5_code
def yX0_set : MethodName := ⟨RX0, "set", "(II)V"⟩
abbrev cX0_timerEnabled : ByteArray := prog_2_method_6_code
def yX0_timerEnabled : MethodName := ⟨RX0, "timerEnabled", "()Z"⟩
abbrev cX0_hasOwnEntries : ByteArray := prog_2_method_7_code
def yX0_hasOwnEntries : MethodName := ⟨RX0, "hasOwnEntries", "()Z"⟩
abbrev cX0_enter : ByteArray := prog_2_method_8_code
def yX0_enter : MethodName := ⟨RX0, "enter", "(III)I"⟩
abbrev cX0_leave : ByteArray := prog_2_method_9_code
def yX0_leave : MethodName := ⟨RX0, "leave", "()I"⟩
def RX1 : String := "RvCore$Memory"
def TX1 : u_T := fun k => match k with
  | _ => ("RvCore$Memory", "words", "[I", true)
def tyX1 : Nat → FieldType := fun k => match k with
  | _ => .array .int
theorem nmX1 : ∀ a, a < 1 → ∀ b, b < 1 → a ≠ b → (TX1 a).2.1 ≠ (TX1 b).2.1 := by decide +kernel
theorem tyX1_ok : ∀ k, k < 1 → parseFieldDescriptor (TX1 k).2.2.1 = some (tyX1 k) := by decide +kernel
abbrev cX1_init : ByteArray := prog_3_method_1_code
def yX1_init : MethodName := ⟨RX1, "<init>", "(I)V"⟩
abbrev cX1_holds : ByteArray := prog_3_method_2_code
def yX1_holds : MethodName := ⟨RX1, "holds", "(I)Z"⟩
abbrev cX1_get : ByteArray := prog_3_method_3_code
def yX1_get : MethodName := ⟨RX1, "get", "(II)I"⟩
abbrev cX1_put : ByteArray := prog_3_method_4_code
def yX1_put : MethodName := ⟨RX1, "put", "(III)V"⟩
abbrev cX1_shift : ByteArray := prog_3_method_5_code
def yX1_shift : MethodName := ⟨RX1, "shift", "(I)I"⟩
abbrev cX1_mask : ByteArray := prog_3_method_6_code
def yX1_mask : MethodName := ⟨RX1, "mask", "(I)I"⟩
def RX2 : String := "RvCore$Port"
def TX2 : u_T := fun k => match k with
  | 0 => ("RvCore$Port", "bytes", "[B", true)
  | _ => ("RvCore$Port", "sent", "I", false)
def tyX2 : Nat → FieldType := fun k => match k with
  | 0 => .array .byte
  | _ => .int
theorem nmX2 : ∀ a, a < 2 → ∀ b, b < 2 → a ≠ b → (TX2 a).2.1 ≠ (TX2 b).2.1 := by decide +kernel
theorem tyX2_ok : ∀ k, k < 2 → parseFieldDescriptor (TX2 k).2.2.1 = some (tyX2 k) := by decide +kernel
abbrev cX2_init : ByteArray := prog_4_method_1_code
def yX2_init : MethodName := ⟨RX2, "<init>", "(I)V"⟩
abbrev cX2_restart : ByteArray := prog_4_method_2_code
def yX2_restart : MethodName := ⟨RX2, "restart", "()V"⟩
abbrev cX2_room : ByteArray := prog_4_method_3_code
def yX2_room : MethodName := ⟨RX2, "room", "()I"⟩
abbrev cX2_send : ByteArray := prog_4_method_4_code
def yX2_send : MethodName := ⟨RX2, "send", "(I)Z"⟩
abbrev cX2_byteAt : ByteArray := prog_4_method_5_code
def yX2_byteAt : MethodName := ⟨RX2, "byteAt", "(I)I"⟩
def RX3 : String := "RvCore$Timer"
def TX3 : u_T := fun k => match k with
  | 0 => ("RvCore$Timer", "time", "J", false)
  | _ => ("RvCore$Timer", "limit", "J", false)
def tyX3 : Nat → FieldType := fun k => match k with
  | 0 => .long
  | _ => .long
theorem nmX3 : ∀ a, a < 2 → ∀ b, b < 2 → a ≠ b → (TX3 a).2.1 ≠ (TX3 b).2.1 := by decide +kernel
theorem tyX3_ok : ∀ k, k < 2 → parseFieldDescriptor (TX3 k).2.2.1 = some (tyX3 k) := by decide +kernel
abbrev cX3_init : ByteArray := prog_5_method_1_code
def yX3_init : MethodName := ⟨RX3, "<init>", "()V"⟩
abbrev cX3_restart : ByteArray := prog_5_method_2_code
def yX3_restart : MethodName := ⟨RX3, "restart", "()V"⟩
abbrev cX3_advance : ByteArray := prog_5_method_3_code
def yX3_advance : MethodName := ⟨RX3, "advance", "()V"⟩
abbrev cX3_isDue : ByteArray := prog_5_method_4_code
def yX3_isDue : MethodName := ⟨RX3, "isDue", "()Z"⟩
abbrev cX3_holds : ByteArray := prog_5_method_5_code
def yX3_holds : MethodName := ⟨RX3, "holds", "(I)Z"⟩
abbrev cX3_half : ByteArray := prog_5_method_6_code
def yX3_half : MethodName := ⟨RX3, "half", "(I)I"⟩
abbrev cX3_setHalf : ByteArray := prog_5_method_7_code
def yX3_setHalf : MethodName := ⟨RX3, "setHalf", "(II)V"⟩
abbrev cX3_isTime : ByteArray := prog_5_method_8_code
def yX3_isTime : MethodName := ⟨RX3, "isTime", "(I)Z"⟩
abbrev cX3_isUpper : ByteArray := prog_5_method_9_code
def yX3_isUpper : MethodName := ⟨RX3, "isUpper", "(I)Z"⟩
abbrev cX3_withHalf : ByteArray := prog_5_method_10_code
def yX3_withHalf : MethodName := ⟨RX3, "withHalf", "(JZI)J"⟩
def RX4 : String := "RvCore"
def TX4 : u_T := fun k => match k with
  | 0 => ("RvCore", "memory", "LRvCore$Memory;", true)
  | 1 => ("RvCore", "timer", "LRvCore$Timer;", true)
  | 2 => ("RvCore", "port", "LRvCore$Port;", true)
  | 3 => ("RvCore", "controls", "LRvCore$Controls;", true)
  | 4 => ("RvCore", "x", "[I", true)
  | 5 => ("RvCore", "place", "I", false)
  | 6 => ("RvCore", "waiting", "Z", false)
  | 7 => ("RvCore", "retired", "J", false)
  | _ => ("RvCore", "latest", "I", false)
def tyX4 : Nat → FieldType := fun k => match k with
  | 0 => .object "RvCore$Memory"
  | 1 => .object "RvCore$Timer"
  | 2 => .object "RvCore$Port"
  | 3 => .object "RvCore$Controls"
  | 4 => .array .int
  | 5 => .int
  | 6 => .boolean
  | 7 => .long
  | _ => .int
theorem nmX4 : ∀ a, a < 9 → ∀ b, b < 9 → a ≠ b → (TX4 a).2.1 ≠ (TX4 b).2.1 := by decide +kernel
theorem tyX4_ok : ∀ k, k < 9 → parseFieldDescriptor (TX4 k).2.2.1 = some (tyX4 k) := by decide +kernel
abbrev cX4_init : ByteArray := prog_1_method_1_code
def yX4_init : MethodName := ⟨RX4, "<init>", "(II)V"⟩
abbrev cX4_reset : ByteArray := prog_1_method_2_code
def yX4_reset : MethodName := ⟨RX4, "reset", "()V"⟩
abbrev cX4_poke : ByteArray := prog_1_method_3_code
def yX4_poke : MethodName := ⟨RX4, "poke", "(II)Z"⟩
abbrev cX4_load : ByteArray := prog_1_method_4_code
def yX4_load : MethodName := ⟨RX4, "load", "(II)Z"⟩
abbrev cX4_peek : ByteArray := prog_1_method_5_code
def yX4_peek : MethodName := ⟨RX4, "peek", "(I)I"⟩
abbrev cX4_step : ByteArray := prog_1_method_6_code
def yX4_step : MethodName := ⟨RX4, "step", "()I"⟩
abbrev cX4_run : ByteArray := prog_1_method_7_code
def yX4_run : MethodName := ⟨RX4, "run", "(I)I"⟩
abbrev cX4_tick : ByteArray := prog_1_method_8_code
def yX4_tick : MethodName := ⟨RX4, "tick", "()V"⟩
abbrev cX4_reg : ByteArray := prog_1_method_9_code
def yX4_reg : MethodName := ⟨RX4, "reg", "(I)I"⟩
abbrev cX4_pc : ByteArray := prog_1_method_10_code
def yX4_pc : MethodName := ⟨RX4, "pc", "()I"⟩
abbrev cX4_csr : ByteArray := prog_1_method_11_code
def yX4_csr : MethodName := ⟨RX4, "csr", "(I)I"⟩
abbrev cX4_told : ByteArray := prog_1_method_12_code
def yX4_told : MethodName := ⟨RX4, "told", "(I)J"⟩
abbrev cX4_outSize : ByteArray := prog_1_method_13_code
def yX4_outSize : MethodName := ⟨RX4, "outSize", "()I"⟩
abbrev cX4_out : ByteArray := prog_1_method_14_code
def yX4_out : MethodName := ⟨RX4, "out", "(I)I"⟩
abbrev cX4_stepOnce : ByteArray := prog_1_method_15_code
def yX4_stepOnce : MethodName := ⟨RX4, "stepOnce", "()I"⟩
abbrev cX4_instruct : ByteArray := prog_1_method_16_code
def yX4_instruct : MethodName := ⟨RX4, "instruct", "()I"⟩
abbrev cX4_retire : ByteArray := prog_1_method_17_code
def yX4_retire : MethodName := ⟨RX4, "retire", "(II)I"⟩
abbrev cX4_retireAt : ByteArray := prog_1_method_18_code
def yX4_retireAt : MethodName := ⟨RX4, "retireAt", "(I)I"⟩
abbrev cX4_trap : ByteArray := prog_1_method_19_code
def yX4_trap : MethodName := ⟨RX4, "trap", "(II)I"⟩
abbrev cX4_illegal : ByteArray := prog_1_method_20_code
def yX4_illegal : MethodName := ⟨RX4, "illegal", "(I)I"⟩
abbrev cX4_f : ByteArray := prog_1_method_21_code
def yX4_f : MethodName := ⟨RX4, "f", "(I)I"⟩
abbrev cX4_g : ByteArray := prog_1_method_22_code
def yX4_g : MethodName := ⟨RX4, "g", "(I)I"⟩
abbrev cX4_s : ByteArray := prog_1_method_23_code
def yX4_s : MethodName := ⟨RX4, "s", "(I)I"⟩
abbrev cX4_offsetI : ByteArray := prog_1_method_24_code
def yX4_offsetI : MethodName := ⟨RX4, "offsetI", "(I)I"⟩
abbrev cX4_offsetS : ByteArray := prog_1_method_25_code
def yX4_offsetS : MethodName := ⟨RX4, "offsetS", "(I)I"⟩
abbrev cX4_offsetB : ByteArray := prog_1_method_26_code
def yX4_offsetB : MethodName := ⟨RX4, "offsetB", "(I)I"⟩
abbrev cX4_offsetJ : ByteArray := prog_1_method_27_code
def yX4_offsetJ : MethodName := ⟨RX4, "offsetJ", "(I)I"⟩
abbrev cX4_a : ByteArray := prog_1_method_28_code
def yX4_a : MethodName := ⟨RX4, "a", "(I)I"⟩
abbrev cX4_b : ByteArray := prog_1_method_29_code
def yX4_b : MethodName := ⟨RX4, "b", "(I)I"⟩
abbrev cX4_setD : ByteArray := prog_1_method_30_code
def yX4_setD : MethodName := ⟨RX4, "setD", "(II)V"⟩
abbrev cX4_jump : ByteArray := prog_1_method_31_code
def yX4_jump : MethodName := ⟨RX4, "jump", "(II)I"⟩
abbrev cX4_branch : ByteArray := prog_1_method_32_code
def yX4_branch : MethodName := ⟨RX4, "branch", "(I)I"⟩
abbrev cX4_compares : ByteArray := prog_1_method_33_code
def yX4_compares : MethodName := ⟨RX4, "compares", "(III)Z"⟩
abbrev cX4_belowUnsigned : ByteArray := prog_1_method_34_code
def yX4_belowUnsigned : MethodName := ⟨RX4, "belowUnsigned", "(II)Z"⟩
abbrev cX4_read : ByteArray := prog_1_method_35_code
def yX4_read : MethodName := ⟨RX4, "read", "(I)I"⟩
abbrev cX4_extended : ByteArray := prog_1_method_36_code
def yX4_extended : MethodName := ⟨RX4, "extended", "(II)I"⟩
abbrev cX4_store : ByteArray := prog_1_method_37_code
def yX4_store : MethodName := ⟨RX4, "store", "(I)I"⟩
abbrev cX4_reckonWithNumber : ByteArray := prog_1_method_38_code
def yX4_reckonWithNumber : MethodName := ⟨RX4, "reckonWithNumber", "(I)I"⟩
abbrev cX4_reckonWithRegister : ByteArray := prog_1_method_39_code
def yX4_reckonWithRegister : MethodName := ⟨RX4, "reckonWithRegister", "(I)I"⟩
abbrev cX4_reckoned : ByteArray := prog_1_method_40_code
def yX4_reckoned : MethodName := ⟨RX4, "reckoned", "(IZII)I"⟩
abbrev cX4_unsigned : ByteArray := prog_1_method_41_code
def yX4_unsigned : MethodName := ⟨RX4, "unsigned", "(I)J"⟩
abbrev cX4_product : ByteArray := prog_1_method_42_code
def yX4_product : MethodName := ⟨RX4, "product", "(III)I"⟩
abbrev cX4_divided : ByteArray := prog_1_method_43_code
def yX4_divided : MethodName := ⟨RX4, "divided", "(III)I"⟩
abbrev cX4_system : ByteArray := prog_1_method_44_code
def yX4_system : MethodName := ⟨RX4, "system", "(I)I"⟩
abbrev cX4_control : ByteArray := prog_1_method_45_code
def yX4_control : MethodName := ⟨RX4, "control", "(I)I"⟩
def RX5 : String := "RvCoreModel"
def TX5 : u_T := fun k => match k with
  | 0 => ("RvCoreModel", "size", "I", true)
  | 1 => ("RvCoreModel", "most", "I", true)
  | 2 => ("RvCoreModel", "memory", "[I", true)
  | 3 => ("RvCoreModel", "x", "[I", true)
  | 4 => ("RvCoreModel", "pc", "I", false)
  | 5 => ("RvCoreModel", "mie", "Z", false)
  | 6 => ("RvCoreModel", "mpie", "Z", false)
  | 7 => ("RvCoreModel", "mieBits", "I", false)
  | 8 => ("RvCoreModel", "mtvec", "I", false)
  | 9 => ("RvCoreModel", "mscratch", "I", false)
  | 10 => ("RvCoreModel", "mepc", "I", false)
  | 11 => ("RvCoreModel", "mcause", "I", false)
  | 12 => ("RvCoreModel", "mtval", "I", false)
  | 13 => ("RvCoreModel", "time", "J", false)
  | 14 => ("RvCoreModel", "limit", "J", false)
  | 15 => ("RvCoreModel", "sent", "[I", true)
  | 16 => ("RvCoreModel", "sentMany", "I", false)
  | 17 => ("RvCoreModel", "retired", "J", false)
  | 18 => ("RvCoreModel", "waits", "Z", false)
  | 19 => ("RvCoreModel", "latest", "I", false)
  | 20 => ("RvCoreModel", "word", "I", false)
  | 21 => ("RvCoreModel", "d", "I", false)
  | 22 => ("RvCoreModel", "f", "I", false)
  | 23 => ("RvCoreModel", "s", "I", false)
  | 24 => ("RvCoreModel", "t", "I", false)
  | 25 => ("RvCoreModel", "g", "I", false)
  | _ => ("RvCoreModel", "next", "I", false)
def tyX5 : Nat → FieldType := fun k => match k with
  | 0 => .int
  | 1 => .int
  | 2 => .array .int
  | 3 => .array .int
  | 4 => .int
  | 5 => .boolean
  | 6 => .boolean
  | 7 => .int
  | 8 => .int
  | 9 => .int
  | 10 => .int
  | 11 => .int
  | 12 => .int
  | 13 => .long
  | 14 => .long
  | 15 => .array .int
  | 16 => .int
  | 17 => .long
  | 18 => .boolean
  | 19 => .int
  | 20 => .int
  | 21 => .int
  | 22 => .int
  | 23 => .int
  | 24 => .int
  | 25 => .int
  | _ => .int
theorem nmX5 : ∀ a, a < 27 → ∀ b, b < 27 → a ≠ b → (TX5 a).2.1 ≠ (TX5 b).2.1 := by decide +kernel
theorem tyX5_ok : ∀ k, k < 27 → parseFieldDescriptor (TX5 k).2.2.1 = some (tyX5 k) := by decide +kernel
abbrev cX5_init : ByteArray := prog_7_method_1_code
def yX5_init : MethodName := ⟨RX5, "<init>", "(II)V"⟩
abbrev cX5_reset : ByteArray := prog_7_method_2_code
def yX5_reset : MethodName := ⟨RX5, "reset", "()V"⟩
abbrev cX5_isThere : ByteArray := prog_7_method_3_code
def yX5_isThere : MethodName := ⟨RX5, "isThere", "(II)Z"⟩
abbrev cX5_poke : ByteArray := prog_7_method_4_code
def yX5_poke : MethodName := ⟨RX5, "poke", "(II)Z"⟩
abbrev cX5_load : ByteArray := prog_7_method_5_code
def yX5_load : MethodName := ⟨RX5, "load", "(II)Z"⟩
abbrev cX5_peek : ByteArray := prog_7_method_6_code
def yX5_peek : MethodName := ⟨RX5, "peek", "(I)I"⟩
abbrev cX5_put : ByteArray := prog_7_method_7_code
def yX5_put : MethodName := ⟨RX5, "put", "(III)V"⟩
abbrev cX5_get : ByteArray := prog_7_method_8_code
def yX5_get : MethodName := ⟨RX5, "get", "(II)I"⟩
abbrev cX5_isDue : ByteArray := prog_7_method_9_code
def yX5_isDue : MethodName := ⟨RX5, "isDue", "()Z"⟩
abbrev cX5_isListed : ByteArray := prog_7_method_10_code
def yX5_isListed : MethodName := ⟨RX5, "isListed", "(I)Z"⟩
abbrev cX5_csr : ByteArray := prog_7_method_11_code
def yX5_csr : MethodName := ⟨RX5, "csr", "(I)I"⟩
abbrev cX5_setCsr : ByteArray := prog_7_method_12_code
def yX5_setCsr : MethodName := ⟨RX5, "setCsr", "(II)V"⟩
abbrev cX5_trap : ByteArray := prog_7_method_13_code
def yX5_trap : MethodName := ⟨RX5, "trap", "(II)I"⟩
abbrev cX5_step : ByteArray := prog_7_method_14_code
def yX5_step : MethodName := ⟨RX5, "step", "()I"⟩
abbrev cX5_once : ByteArray := prog_7_method_15_code
def yX5_once : MethodName := ⟨RX5, "once", "()I"⟩
abbrev cX5_run : ByteArray := prog_7_method_16_code
def yX5_run : MethodName := ⟨RX5, "run", "(I)I"⟩
abbrev cX5_tick : ByteArray := prog_7_method_17_code
def yX5_tick : MethodName := ⟨RX5, "tick", "()V"⟩
abbrev cX5_immediate : ByteArray := prog_7_method_18_code
def yX5_immediate : MethodName := ⟨RX5, "immediate", "()I"⟩
abbrev cX5_instruction : ByteArray := prog_7_method_19_code
def yX5_instruction : MethodName := ⟨RX5, "instruction", "()I"⟩
abbrev cX5_illegal : ByteArray := prog_7_method_20_code
def yX5_illegal : MethodName := ⟨RX5, "illegal", "()I"⟩
abbrev cX5_become : ByteArray := prog_7_method_21_code
def yX5_become : MethodName := ⟨RX5, "become", "(I)I"⟩
abbrev cX5_goTo : ByteArray := prog_7_method_22_code
def yX5_goTo : MethodName := ⟨RX5, "goTo", "(IZ)I"⟩
abbrev cX5_work : ByteArray := prog_7_method_23_code
def yX5_work : MethodName := ⟨RX5, "work", "()I"⟩
abbrev cX5_isBelow : ByteArray := prog_7_method_24_code
def yX5_isBelow : MethodName := ⟨RX5, "isBelow", "(II)Z"⟩
abbrev cX5_branch : ByteArray := prog_7_method_25_code
def yX5_branch : MethodName := ⟨RX5, "branch", "()I"⟩
abbrev cX5_read : ByteArray := prog_7_method_26_code
def yX5_read : MethodName := ⟨RX5, "read", "()I"⟩
abbrev cX5_isDevice : ByteArray := prog_7_method_27_code
def yX5_isDevice : MethodName := ⟨RX5, "isDevice", "(I)Z"⟩
abbrev cX5_isClock : ByteArray := prog_7_method_28_code
def yX5_isClock : MethodName := ⟨RX5, "isClock", "(I)Z"⟩
abbrev cX5_mixed : ByteArray := prog_7_method_29_code
def yX5_mixed : MethodName := ⟨RX5, "mixed", "(JZI)J"⟩
abbrev cX5_store : ByteArray := prog_7_method_30_code
def yX5_store : MethodName := ⟨RX5, "store", "()I"⟩
abbrev cX5_reckonBy : ByteArray := prog_7_method_31_code
def yX5_reckonBy : MethodName := ⟨RX5, "reckonBy", "(I)I"⟩
abbrev cX5_reckon : ByteArray := prog_7_method_32_code
def yX5_reckon : MethodName := ⟨RX5, "reckon", "(II)I"⟩
abbrev cX5_reckonTwo : ByteArray := prog_7_method_33_code
def yX5_reckonTwo : MethodName := ⟨RX5, "reckonTwo", "()I"⟩
abbrev cX5_multiplied : ByteArray := prog_7_method_34_code
def yX5_multiplied : MethodName := ⟨RX5, "multiplied", "(II)I"⟩
abbrev cX5_system : ByteArray := prog_7_method_35_code
def yX5_system : MethodName := ⟨RX5, "system", "()I"⟩
abbrev cX5_control : ByteArray := prog_7_method_36_code
def yX5_control : MethodName := ⟨RX5, "control", "()I"⟩
abbrev cX5_reg : ByteArray := prog_7_method_37_code
def yX5_reg : MethodName := ⟨RX5, "reg", "(I)I"⟩
abbrev cX5_pc : ByteArray := prog_7_method_38_code
def yX5_pc : MethodName := ⟨RX5, "pc", "()I"⟩
abbrev cX5_told : ByteArray := prog_7_method_39_code
def yX5_told : MethodName := ⟨RX5, "told", "(I)J"⟩
abbrev cX5_outSize : ByteArray := prog_7_method_40_code
def yX5_outSize : MethodName := ⟨RX5, "outSize", "()I"⟩
abbrev cX5_out : ByteArray := prog_7_method_41_code
def yX5_out : MethodName := ⟨RX5, "out", "(I)I"⟩
def RJ6 : String := "java/lang/Integer"
def TJ6 : u_T := fun k => match k with
  | _ => ("", "", "", false)
def tyJ6 : Nat → FieldType := fun k => match k with
  | _ => .int
abbrev cJ6_compare_7cf53 : ByteArray := prog_8_method_40_code
def yJ6_compare_7cf53 : MethodName := ⟨RJ6, "compare", "(II)I"⟩
abbrev cJ6_compareUnsigned_7cf53 : ByteArray := prog_8_method_41_code
def yJ6_compareUnsigned_7cf53 : MethodName := ⟨RJ6, "compareUnsigned", "(II)I"⟩
def RJ13 : String := "java/lang/Long"
def TJ13 : u_T := fun k => match k with
  | _ => ("", "", "", false)
def tyJ13 : Nat → FieldType := fun k => match k with
  | _ => .int
abbrev cJ13_compare_74951 : ByteArray := prog_9_method_42_code
def yJ13_compare_74951 : MethodName := ⟨RJ13, "compare", "(JJ)I"⟩
abbrev cJ13_compareUnsigned_74951 : ByteArray := prog_9_method_43_code
def yJ13_compareUnsigned_74951 : MethodName := ⟨RJ13, "compareUnsigned", "(JJ)I"⟩
def RJ9 : String := "java/lang/Math"
def TJ9 : u_T := fun k => match k with
  | _ => ("", "", "", false)
def tyJ9 : Nat → FieldType := fun k => match k with
  | _ => .int
abbrev cJ9_max_7cf53 : ByteArray := prog_10_method_65_code
def yJ9_max_7cf53 : MethodName := ⟨RJ9, "max", "(II)I"⟩
abbrev cJ9_min_7cf53 : ByteArray := prog_10_method_69_code
def yJ9_min_7cf53 : MethodName := ⟨RJ9, "min", "(II)I"⟩
def RL : String := "RvCoreLaw"
abbrev cL_cell : ByteArray := method_2_code
def yL_cell : MethodName := ⟨RL, "cell", "([II)I"⟩
abbrev cL_law : ByteArray := code
def yL_law : MethodName := ⟨RL, "law", "([I)Z"⟩
abbrev vwCl : List vw_C := [(RX0, TX0, 8), (RX1, TX1, 1), (RX2, TX2, 2), (RX3, TX3, 2), (RX4, TX4, 9), (RX5, TX5, 27)]
