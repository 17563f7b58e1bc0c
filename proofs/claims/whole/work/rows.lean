section
-- ===== PART A: goes FIRST, ahead of the names: the tables' words, and 'selects' of the private methods out of them =====
/-- a private method of a class that the tables say can be made, by its rows of tables_1 -/
def lw_okq (q : MethodName × Nat) : Prop := (q.1.cls ≠ "java/lang/invoke/MethodHandle" ∧ q.1.cls ≠ "java/lang/invoke/VarHandle") ∧ Cond.instantiable q.1.cls q.2 ∈ tables_1 ∧ Cond.privateMethod q.1 ∈ tables_1 ∧ Cond.instanceMethod q.1 ∈ tables_1
theorem lw_p0 : lw_okq (⟨"LineOfKin", "find", "(I)LLineOfKin$Device;"⟩, 8) := ⟨⟨by decide +kernel, by decide +kernel⟩, List.mem_of_getElem? (i := 8) (by decide +kernel), List.mem_of_getElem? (i := 166) (by decide +kernel), List.mem_of_getElem? (i := 167) (by decide +kernel)⟩
theorem lw_p1 : lw_okq (⟨"LineOfKin$Device", "bears", "(I)Z"⟩, 12) := ⟨⟨by decide +kernel, by decide +kernel⟩, List.mem_of_getElem? (i := 100) (by decide +kernel), List.mem_of_getElem? (i := 175) (by decide +kernel), List.mem_of_getElem? (i := 176) (by decide +kernel)⟩
theorem lw_p2 : lw_okq (⟨"LineOfKin$Device", "hasAct", "(II)Z"⟩, 12) := ⟨⟨by decide +kernel, by decide +kernel⟩, List.mem_of_getElem? (i := 100) (by decide +kernel), List.mem_of_getElem? (i := 180) (by decide +kernel), List.mem_of_getElem? (i := 181) (by decide +kernel)⟩
theorem lw_p3 : lw_okq (⟨"LineOfKin$Bodies", "forgetChain", "()V"⟩, 3) := ⟨⟨by decide +kernel, by decide +kernel⟩, List.mem_of_getElem? (i := 16) (by decide +kernel), List.mem_of_getElem? (i := 185) (by decide +kernel), List.mem_of_getElem? (i := 186) (by decide +kernel)⟩
theorem lw_p4 : lw_okq (⟨"LineOfKin$Bodies", "answer", "(LLineOfKin$Device;III)I"⟩, 3) := ⟨⟨by decide +kernel, by decide +kernel⟩, List.mem_of_getElem? (i := 16) (by decide +kernel), List.mem_of_getElem? (i := 189) (by decide +kernel), List.mem_of_getElem? (i := 190) (by decide +kernel)⟩
theorem lw_p5 : lw_okq (⟨"LineOfKin$Bodies", "selected", "(II)I"⟩, 3) := ⟨⟨by decide +kernel, by decide +kernel⟩, List.mem_of_getElem? (i := 16) (by decide +kernel), List.mem_of_getElem? (i := 193) (by decide +kernel), List.mem_of_getElem? (i := 194) (by decide +kernel)⟩
theorem lw_p6 : lw_okq (⟨"LineOfKin$Bodies", "run", "(LLineOfKin$Device;III)I"⟩, 3) := ⟨⟨by decide +kernel, by decide +kernel⟩, List.mem_of_getElem? (i := 16) (by decide +kernel), List.mem_of_getElem? (i := 197) (by decide +kernel), List.mem_of_getElem? (i := 198) (by decide +kernel)⟩
theorem lw_p7 : lw_okq (⟨"LineOfKin$Bodies", "begin", "(I)V"⟩, 3) := ⟨⟨by decide +kernel, by decide +kernel⟩, List.mem_of_getElem? (i := 16) (by decide +kernel), List.mem_of_getElem? (i := 201) (by decide +kernel), List.mem_of_getElem? (i := 202) (by decide +kernel)⟩
theorem lw_p8 : lw_okq (⟨"LineOfKin$Bodies", "runOfInterface", "(LLineOfKin$Device;III)I"⟩, 3) := ⟨⟨by decide +kernel, by decide +kernel⟩, List.mem_of_getElem? (i := 16) (by decide +kernel), List.mem_of_getElem? (i := 205) (by decide +kernel), List.mem_of_getElem? (i := 206) (by decide +kernel)⟩
theorem lw_p9 : lw_okq (⟨"LineOfKin$Bodies", "by", "(ILLineOfKin$Device;III)I"⟩, 3) := ⟨⟨by decide +kernel, by decide +kernel⟩, List.mem_of_getElem? (i := 16) (by decide +kernel), List.mem_of_getElem? (i := 210) (by decide +kernel), List.mem_of_getElem? (i := 211) (by decide +kernel)⟩
theorem lw_p10 : lw_okq (⟨"LineOfKin$Bodies", "runOfRootOrUnit", "(LLineOfKin$Device;III)I"⟩, 3) := ⟨⟨by decide +kernel, by decide +kernel⟩, List.mem_of_getElem? (i := 16) (by decide +kernel), List.mem_of_getElem? (i := 214) (by decide +kernel), List.mem_of_getElem? (i := 215) (by decide +kernel)⟩
theorem lw_p11 : lw_okq (⟨"LineOfKin$Bodies", "runOfPumpToFine", "(LLineOfKin$Device;III)I"⟩, 3) := ⟨⟨by decide +kernel, by decide +kernel⟩, List.mem_of_getElem? (i := 16) (by decide +kernel), List.mem_of_getElem? (i := 218) (by decide +kernel), List.mem_of_getElem? (i := 219) (by decide +kernel)⟩
theorem lw_p12 : lw_okq (⟨"LineOfKin$Bodies", "above", "(ILLineOfKin$Device;III)I"⟩, 3) := ⟨⟨by decide +kernel, by decide +kernel⟩, List.mem_of_getElem? (i := 16) (by decide +kernel), List.mem_of_getElem? (i := 222) (by decide +kernel), List.mem_of_getElem? (i := 223) (by decide +kernel)⟩
theorem lw_p13 : lw_okq (⟨"LineOfKin$Bodies", "runOfRelayToMute", "(LLineOfKin$Device;III)I"⟩, 3) := ⟨⟨by decide +kernel, by decide +kernel⟩, List.mem_of_getElem? (i := 16) (by decide +kernel), List.mem_of_getElem? (i := 227) (by decide +kernel), List.mem_of_getElem? (i := 228) (by decide +kernel)⟩
theorem lw_p14 : lw_okq (⟨"LineOfKin$Bodies", "runOfBoostToLedger", "(LLineOfKin$Device;III)I"⟩, 3) := ⟨⟨by decide +kernel, by decide +kernel⟩, List.mem_of_getElem? (i := 16) (by decide +kernel), List.mem_of_getElem? (i := 231) (by decide +kernel), List.mem_of_getElem? (i := 232) (by decide +kernel)⟩
theorem lw_p15 : lw_okq (⟨"LineOfKin", "answerToByte", "(LLineOfKin$Device;II)I"⟩, 8) := ⟨⟨by decide +kernel, by decide +kernel⟩, List.mem_of_getElem? (i := 8) (by decide +kernel), List.mem_of_getElem? (i := 248) (by decide +kernel), List.mem_of_getElem? (i := 249) (by decide +kernel)⟩
def lw_privs_1 : List (MethodName × Nat) := [(⟨"LineOfKin", "find", "(I)LLineOfKin$Device;"⟩, 8), (⟨"LineOfKin$Device", "bears", "(I)Z"⟩, 12), (⟨"LineOfKin$Device", "hasAct", "(II)Z"⟩, 12), (⟨"LineOfKin$Bodies", "forgetChain", "()V"⟩, 3), (⟨"LineOfKin$Bodies", "answer", "(LLineOfKin$Device;III)I"⟩, 3), (⟨"LineOfKin$Bodies", "selected", "(II)I"⟩, 3), (⟨"LineOfKin$Bodies", "run", "(LLineOfKin$Device;III)I"⟩, 3), (⟨"LineOfKin$Bodies", "begin", "(I)V"⟩, 3), (⟨"LineOfKin$Bodies", "runOfInterface", "(LLineOfKin$Device;III)I"⟩, 3), (⟨"LineOfKin$Bodies", "by", "(ILLineOfKin$Device;III)I"⟩, 3), (⟨"LineOfKin$Bodies", "runOfRootOrUnit", "(LLineOfKin$Device;III)I"⟩, 3), (⟨"LineOfKin$Bodies", "runOfPumpToFine", "(LLineOfKin$Device;III)I"⟩, 3), (⟨"LineOfKin$Bodies", "above", "(ILLineOfKin$Device;III)I"⟩, 3), (⟨"LineOfKin$Bodies", "runOfRelayToMute", "(LLineOfKin$Device;III)I"⟩, 3), (⟨"LineOfKin$Bodies", "runOfBoostToLedger", "(LLineOfKin$Device;III)I"⟩, 3), (⟨"LineOfKin", "answerToByte", "(LLineOfKin$Device;II)I"⟩, 8)]
theorem lw_r1 : ∀ q ∈ lw_privs_1, lw_okq q := List.forall_mem_cons.mpr ⟨lw_p0, List.forall_mem_cons.mpr ⟨lw_p1, List.forall_mem_cons.mpr ⟨lw_p2, List.forall_mem_cons.mpr ⟨lw_p3, List.forall_mem_cons.mpr ⟨lw_p4, List.forall_mem_cons.mpr ⟨lw_p5, List.forall_mem_cons.mpr ⟨lw_p6, List.forall_mem_cons.mpr ⟨lw_p7, List.forall_mem_cons.mpr ⟨lw_p8, List.forall_mem_cons.mpr ⟨lw_p9, List.forall_mem_cons.mpr ⟨lw_p10, List.forall_mem_cons.mpr ⟨lw_p11, List.forall_mem_cons.mpr ⟨lw_p12, List.forall_mem_cons.mpr ⟨lw_p13, List.forall_mem_cons.mpr ⟨lw_p14, List.forall_mem_cons.mpr ⟨lw_p15, fun _ h => absurd h List.not_mem_nil⟩⟩⟩⟩⟩⟩⟩⟩⟩⟩⟩⟩⟩⟩⟩⟩
theorem lw_p16 : lw_okq (⟨"LineOfKin$Device", "addLinkTo", "(LLineOfKin$Device;)V"⟩, 12) := ⟨⟨by decide +kernel, by decide +kernel⟩, List.mem_of_getElem? (i := 100) (by decide +kernel), List.mem_of_getElem? (i := 256) (by decide +kernel), List.mem_of_getElem? (i := 257) (by decide +kernel)⟩
theorem lw_p17 : lw_okq (⟨"LineOfKin", "letTake", "(LLineOfKin$Device;I)V"⟩, 8) := ⟨⟨by decide +kernel, by decide +kernel⟩, List.mem_of_getElem? (i := 8) (by decide +kernel), List.mem_of_getElem? (i := 279) (by decide +kernel), List.mem_of_getElem? (i := 280) (by decide +kernel)⟩
theorem lw_p18 : lw_okq (⟨"LineOfKin$Device", "actOfTaking", "()I"⟩, 12) := ⟨⟨by decide +kernel, by decide +kernel⟩, List.mem_of_getElem? (i := 100) (by decide +kernel), List.mem_of_getElem? (i := 283) (by decide +kernel), List.mem_of_getElem? (i := 284) (by decide +kernel)⟩
theorem lw_p19 : lw_okq (⟨"LineOfKin", "handOn", "(LLineOfKin$Device;)V"⟩, 8) := ⟨⟨by decide +kernel, by decide +kernel⟩, List.mem_of_getElem? (i := 8) (by decide +kernel), List.mem_of_getElem? (i := 288) (by decide +kernel), List.mem_of_getElem? (i := 289) (by decide +kernel)⟩
theorem lw_p20 : lw_okq (⟨"LineOfKin$Bodies", "keptAt", "(I)I"⟩, 3) := ⟨⟨by decide +kernel, by decide +kernel⟩, List.mem_of_getElem? (i := 16) (by decide +kernel), List.mem_of_getElem? (i := 300) (by decide +kernel), List.mem_of_getElem? (i := 301) (by decide +kernel)⟩
theorem lw_p21 : lw_okq (⟨"LineOfKin$Device", "property", "(I)I"⟩, 12) := ⟨⟨by decide +kernel, by decide +kernel⟩, List.mem_of_getElem? (i := 100) (by decide +kernel), List.mem_of_getElem? (i := 315) (by decide +kernel), List.mem_of_getElem? (i := 316) (by decide +kernel)⟩
theorem lw_p22 : lw_okq (⟨"LineOfKin", "countBearersOf", "(I)I"⟩, 8) := ⟨⟨by decide +kernel, by decide +kernel⟩, List.mem_of_getElem? (i := 8) (by decide +kernel), List.mem_of_getElem? (i := 323) (by decide +kernel), List.mem_of_getElem? (i := 324) (by decide +kernel)⟩
theorem lw_p23 : lw_okq (⟨"LineOfKinModel", "have", "(III)V"⟩, 28) := ⟨⟨by decide +kernel, by decide +kernel⟩, List.mem_of_getElem? (i := 331) (by decide +kernel), List.mem_of_getElem? (i := 337) (by decide +kernel), List.mem_of_getElem? (i := 338) (by decide +kernel)⟩
theorem lw_p24 : lw_okq (⟨"LineOfKinModel", "heir", "(III)V"⟩, 28) := ⟨⟨by decide +kernel, by decide +kernel⟩, List.mem_of_getElem? (i := 331) (by decide +kernel), List.mem_of_getElem? (i := 341) (by decide +kernel), List.mem_of_getElem? (i := 342) (by decide +kernel)⟩
theorem lw_p25 : lw_okq (⟨"LineOfKinModel", "lowest", "(II)I"⟩, 28) := ⟨⟨by decide +kernel, by decide +kernel⟩, List.mem_of_getElem? (i := 331) (by decide +kernel), List.mem_of_getElem? (i := 351) (by decide +kernel), List.mem_of_getElem? (i := 352) (by decide +kernel)⟩
theorem lw_p26 : lw_okq (⟨"LineOfKinModel", "select", "(II)I"⟩, 28) := ⟨⟨by decide +kernel, by decide +kernel⟩, List.mem_of_getElem? (i := 331) (by decide +kernel), List.mem_of_getElem? (i := 355) (by decide +kernel), List.mem_of_getElem? (i := 356) (by decide +kernel)⟩
theorem lw_p27 : lw_okq (⟨"LineOfKinModel", "why", "(III)I"⟩, 28) := ⟨⟨by decide +kernel, by decide +kernel⟩, List.mem_of_getElem? (i := 331) (by decide +kernel), List.mem_of_getElem? (i := 453) (by decide +kernel), List.mem_of_getElem? (i := 454) (by decide +kernel)⟩
theorem lw_p28 : lw_okq (⟨"LineOfKinModel", "isDevice", "(I)Z"⟩, 28) := ⟨⟨by decide +kernel, by decide +kernel⟩, List.mem_of_getElem? (i := 331) (by decide +kernel), List.mem_of_getElem? (i := 457) (by decide +kernel), List.mem_of_getElem? (i := 458) (by decide +kernel)⟩
theorem lw_p29 : lw_okq (⟨"LineOfKinModel", "isAble", "(II)Z"⟩, 28) := ⟨⟨by decide +kernel, by decide +kernel⟩, List.mem_of_getElem? (i := 331) (by decide +kernel), List.mem_of_getElem? (i := 467) (by decide +kernel), List.mem_of_getElem? (i := 468) (by decide +kernel)⟩
theorem lw_p30 : lw_okq (⟨"LineOfKinModel", "isOf", "(III)Z"⟩, 28) := ⟨⟨by decide +kernel, by decide +kernel⟩, List.mem_of_getElem? (i := 331) (by decide +kernel), List.mem_of_getElem? (i := 471) (by decide +kernel), List.mem_of_getElem? (i := 472) (by decide +kernel)⟩
theorem lw_p31 : lw_okq (⟨"LineOfKinModel", "refused", "(I)I"⟩, 28) := ⟨⟨by decide +kernel, by decide +kernel⟩, List.mem_of_getElem? (i := 331) (by decide +kernel), List.mem_of_getElem? (i := 475) (by decide +kernel), List.mem_of_getElem? (i := 476) (by decide +kernel)⟩
def lw_privs_2 : List (MethodName × Nat) := [(⟨"LineOfKin$Device", "addLinkTo", "(LLineOfKin$Device;)V"⟩, 12), (⟨"LineOfKin", "letTake", "(LLineOfKin$Device;I)V"⟩, 8), (⟨"LineOfKin$Device", "actOfTaking", "()I"⟩, 12), (⟨"LineOfKin", "handOn", "(LLineOfKin$Device;)V"⟩, 8), (⟨"LineOfKin$Bodies", "keptAt", "(I)I"⟩, 3), (⟨"LineOfKin$Device", "property", "(I)I"⟩, 12), (⟨"LineOfKin", "countBearersOf", "(I)I"⟩, 8), (⟨"LineOfKinModel", "have", "(III)V"⟩, 28), (⟨"LineOfKinModel", "heir", "(III)V"⟩, 28), (⟨"LineOfKinModel", "lowest", "(II)I"⟩, 28), (⟨"LineOfKinModel", "select", "(II)I"⟩, 28), (⟨"LineOfKinModel", "why", "(III)I"⟩, 28), (⟨"LineOfKinModel", "isDevice", "(I)Z"⟩, 28), (⟨"LineOfKinModel", "isAble", "(II)Z"⟩, 28), (⟨"LineOfKinModel", "isOf", "(III)Z"⟩, 28), (⟨"LineOfKinModel", "refused", "(I)I"⟩, 28)]
theorem lw_r2 : ∀ q ∈ lw_privs_2, lw_okq q := List.forall_mem_cons.mpr ⟨lw_p16, List.forall_mem_cons.mpr ⟨lw_p17, List.forall_mem_cons.mpr ⟨lw_p18, List.forall_mem_cons.mpr ⟨lw_p19, List.forall_mem_cons.mpr ⟨lw_p20, List.forall_mem_cons.mpr ⟨lw_p21, List.forall_mem_cons.mpr ⟨lw_p22, List.forall_mem_cons.mpr ⟨lw_p23, List.forall_mem_cons.mpr ⟨lw_p24, List.forall_mem_cons.mpr ⟨lw_p25, List.forall_mem_cons.mpr ⟨lw_p26, List.forall_mem_cons.mpr ⟨lw_p27, List.forall_mem_cons.mpr ⟨lw_p28, List.forall_mem_cons.mpr ⟨lw_p29, List.forall_mem_cons.mpr ⟨lw_p30, List.forall_mem_cons.mpr ⟨lw_p31, fun _ h => absurd h List.not_mem_nil⟩⟩⟩⟩⟩⟩⟩⟩⟩⟩⟩⟩⟩⟩⟩⟩
theorem lw_p32 : lw_okq (⟨"LineOfKinModel", "begin", "()V"⟩, 28) := ⟨⟨by decide +kernel, by decide +kernel⟩, List.mem_of_getElem? (i := 331) (by decide +kernel), List.mem_of_getElem? (i := 479) (by decide +kernel), List.mem_of_getElem? (i := 480) (by decide +kernel)⟩
theorem lw_p33 : lw_okq (⟨"LineOfKinModel", "act", "(III)I"⟩, 28) := ⟨⟨by decide +kernel, by decide +kernel⟩, List.mem_of_getElem? (i := 331) (by decide +kernel), List.mem_of_getElem? (i := 483) (by decide +kernel), List.mem_of_getElem? (i := 484) (by decide +kernel)⟩
theorem lw_p34 : lw_okq (⟨"LineOfKinModel", "enter", "(II)V"⟩, 28) := ⟨⟨by decide +kernel, by decide +kernel⟩, List.mem_of_getElem? (i := 331) (by decide +kernel), List.mem_of_getElem? (i := 487) (by decide +kernel), List.mem_of_getElem? (i := 488) (by decide +kernel)⟩
theorem lw_p35 : lw_okq (⟨"LineOfKinModel", "pop", "()I"⟩, 28) := ⟨⟨by decide +kernel, by decide +kernel⟩, List.mem_of_getElem? (i := 331) (by decide +kernel), List.mem_of_getElem? (i := 491) (by decide +kernel), List.mem_of_getElem? (i := 492) (by decide +kernel)⟩
theorem lw_p36 : lw_okq (⟨"LineOfKinModel", "step", "(III)V"⟩, 28) := ⟨⟨by decide +kernel, by decide +kernel⟩, List.mem_of_getElem? (i := 331) (by decide +kernel), List.mem_of_getElem? (i := 495) (by decide +kernel), List.mem_of_getElem? (i := 496) (by decide +kernel)⟩
theorem lw_p37 : lw_okq (⟨"LineOfKinModel", "push", "(I)V"⟩, 28) := ⟨⟨by decide +kernel, by decide +kernel⟩, List.mem_of_getElem? (i := 331) (by decide +kernel), List.mem_of_getElem? (i := 499) (by decide +kernel), List.mem_of_getElem? (i := 500) (by decide +kernel)⟩
theorem lw_p38 : lw_okq (⟨"LineOfKinModel", "takes", "(II)I"⟩, 28) := ⟨⟨by decide +kernel, by decide +kernel⟩, List.mem_of_getElem? (i := 331) (by decide +kernel), List.mem_of_getElem? (i := 519) (by decide +kernel), List.mem_of_getElem? (i := 520) (by decide +kernel)⟩
def lw_privs_3 : List (MethodName × Nat) := [(⟨"LineOfKinModel", "begin", "()V"⟩, 28), (⟨"LineOfKinModel", "act", "(III)I"⟩, 28), (⟨"LineOfKinModel", "enter", "(II)V"⟩, 28), (⟨"LineOfKinModel", "pop", "()I"⟩, 28), (⟨"LineOfKinModel", "step", "(III)V"⟩, 28), (⟨"LineOfKinModel", "push", "(I)V"⟩, 28), (⟨"LineOfKinModel", "takes", "(II)I"⟩, 28)]
theorem lw_r3 : ∀ q ∈ lw_privs_3, lw_okq q := List.forall_mem_cons.mpr ⟨lw_p32, List.forall_mem_cons.mpr ⟨lw_p33, List.forall_mem_cons.mpr ⟨lw_p34, List.forall_mem_cons.mpr ⟨lw_p35, List.forall_mem_cons.mpr ⟨lw_p36, List.forall_mem_cons.mpr ⟨lw_p37, List.forall_mem_cons.mpr ⟨lw_p38, fun _ h => absurd h List.not_mem_nil⟩⟩⟩⟩⟩⟩⟩
def lw_privs : List (MethodName × Nat) := lw_privs_1 ++ (lw_privs_2 ++ (lw_privs_3))
def lw_tbl : List Cond := k2_sels lw_privs ++ tables_1
theorem lw_privs_ok : ∀ q ∈ lw_privs, lw_okq q := by
  show ∀ q ∈ lw_privs_1 ++ (lw_privs_2 ++ (lw_privs_3)), lw_okq q
  exact List.forall_mem_append.mpr ⟨lw_r1, List.forall_mem_append.mpr ⟨lw_r2, lw_r3⟩⟩
-- ===== end of PART A =====
/-! ===== BEGIN printed: names, fields, word lists, decode rows ===== -/
def RX0 : String := "LineOfKin$Bodies"
def TX0 : u_T := fun k => match k with
  | 0 => ("LineOfKin$Bodies", "kept", "[I", true)
  | 1 => ("LineOfKin$Bodies", "selections", "[I", true)
  | _ => ("LineOfKin$Bodies", "begun", "I", false)
def tyX0 : Nat → FieldType := fun k => match k with
  | 0 => .array .int
  | 1 => .array .int
  | _ => .int
abbrev wsX00 : List Cond := u_ws RX0 TX0 3
theorem nmX0 : ∀ a, a < 3 → ∀ b, b < 3 → a ≠ b → (TX0 a).2.1 ≠ (TX0 b).2.1 := by decide +kernel
theorem tyX0_ok : ∀ k, k < 3 → parseFieldDescriptor (TX0 k).2.2.1 = some (tyX0 k) := by decide +kernel
abbrev cX0_init : ByteArray := prog_2_method_1_code
def yX0_init : MethodName := ⟨RX0, "<init>", "()V"⟩
abbrev cX0_forgetChain : ByteArray := prog_2_method_2_code
def yX0_forgetChain : MethodName := ⟨RX0, "forgetChain", "()V"⟩
abbrev cX0_keptAt : ByteArray := prog_2_method_3_code
def yX0_keptAt : MethodName := ⟨RX0, "keptAt", "(I)I"⟩
abbrev cX0_selected : ByteArray := prog_2_method_4_code
def yX0_selected : MethodName := ⟨RX0, "selected", "(II)I"⟩
abbrev cX0_answer : ByteArray := prog_2_method_5_code
def yX0_answer : MethodName := ⟨RX0, "answer", "(LLineOfKin$Device;III)I"⟩
abbrev cX0_above : ByteArray := prog_2_method_6_code
def yX0_above : MethodName := ⟨RX0, "above", "(ILLineOfKin$Device;III)I"⟩
abbrev cX0_by : ByteArray := prog_2_method_7_code
def yX0_by : MethodName := ⟨RX0, "by", "(ILLineOfKin$Device;III)I"⟩
abbrev cX0_run : ByteArray := prog_2_method_8_code
def yX0_run : MethodName := ⟨RX0, "run", "(LLineOfKin$Device;III)I"⟩
abbrev cX0_begin : ByteArray := prog_2_method_9_code
def yX0_begin : MethodName := ⟨RX0, "begin", "(I)V"⟩
abbrev cX0_runOfInterface : ByteArray := prog_2_method_10_code
def yX0_runOfInterface : MethodName := ⟨RX0, "runOfInterface", "(LLineOfKin$Device;III)I"⟩
abbrev cX0_runOfRootOrUnit : ByteArray := prog_2_method_11_code
def yX0_runOfRootOrUnit : MethodName := ⟨RX0, "runOfRootOrUnit", "(LLineOfKin$Device;III)I"⟩
abbrev cX0_runOfPumpToFine : ByteArray := prog_2_method_12_code
def yX0_runOfPumpToFine : MethodName := ⟨RX0, "runOfPumpToFine", "(LLineOfKin$Device;III)I"⟩
abbrev cX0_runOfRelayToMute : ByteArray := prog_2_method_13_code
def yX0_runOfRelayToMute : MethodName := ⟨RX0, "runOfRelayToMute", "(LLineOfKin$Device;III)I"⟩
abbrev cX0_runOfBoostToLedger : ByteArray := prog_2_method_14_code
def yX0_runOfBoostToLedger : MethodName := ⟨RX0, "runOfBoostToLedger", "(LLineOfKin$Device;III)I"⟩
def RX1 : String := "LineOfKin$Device"
def TX1 : u_T := fun k => match k with
  | 0 => ("LineOfKin$Device", "kind", "I", true)
  | 1 => ("LineOfKin$Device", "ways", "I", true)
  | 2 => ("LineOfKin$Device", "actsOfKind", "I", true)
  | 3 => ("LineOfKin$Device", "v", "I", false)
  | 4 => ("LineOfKin$Device", "c", "I", false)
  | 5 => ("LineOfKin$Device", "outgoing", "I", false)
  | 6 => ("LineOfKin$Device", "incoming", "I", false)
  | 7 => ("LineOfKin$Device", "taken", "I", false)
  | 8 => ("LineOfKin$Device", "pulse", "I", false)
  | 9 => ("LineOfKin$Device", "answered", "I", false)
  | 10 => ("LineOfKin$Device", "firstLink", "LLineOfKin$Link;", false)
  | _ => ("LineOfKin$Device", "lastLink", "LLineOfKin$Link;", false)
def tyX1 : Nat → FieldType := fun k => match k with
  | 0 => .int
  | 1 => .int
  | 2 => .int
  | 3 => .int
  | 4 => .int
  | 5 => .int
  | 6 => .int
  | 7 => .int
  | 8 => .int
  | 9 => .int
  | 10 => .object "LineOfKin$Link"
  | _ => .object "LineOfKin$Link"
abbrev wsX10 : List Cond := u_ws RX1 TX1 12
theorem nmX1 : ∀ a, a < 12 → ∀ b, b < 12 → a ≠ b → (TX1 a).2.1 ≠ (TX1 b).2.1 := by decide +kernel
theorem tyX1_ok : ∀ k, k < 12 → parseFieldDescriptor (TX1 k).2.2.1 = some (tyX1 k) := by decide +kernel
abbrev cX1_init : ByteArray := prog_3_method_1_code
def yX1_init : MethodName := ⟨RX1, "<init>", "(II)V"⟩
abbrev cX1_bears : ByteArray := prog_3_method_2_code
def yX1_bears : MethodName := ⟨RX1, "bears", "(I)Z"⟩
abbrev cX1_hasAct : ByteArray := prog_3_method_3_code
def yX1_hasAct : MethodName := ⟨RX1, "hasAct", "(II)Z"⟩
abbrev cX1_actOfTaking : ByteArray := prog_3_method_4_code
def yX1_actOfTaking : MethodName := ⟨RX1, "actOfTaking", "()I"⟩
abbrev cX1_addLinkTo : ByteArray := prog_3_method_5_code
def yX1_addLinkTo : MethodName := ⟨RX1, "addLinkTo", "(LLineOfKin$Device;)V"⟩
abbrev cX1_isProperty : ByteArray := prog_3_method_6_code
def yX1_isProperty : MethodName := ⟨RX1, "isProperty", "(I)Z"⟩
abbrev cX1_property : ByteArray := prog_3_method_7_code
def yX1_property : MethodName := ⟨RX1, "property", "(I)I"⟩
def RX2 : String := "LineOfKin$Kin"
def TX2 : u_T := fun k => match k with
  | _ => ("", "", "", false)
def tyX2 : Nat → FieldType := fun k => match k with
  | _ => .int
abbrev wsX20 : List Cond := u_ws RX2 TX2 0
theorem nmX2 : ∀ a, a < 0 → ∀ b, b < 0 → a ≠ b → (TX2 a).2.1 ≠ (TX2 b).2.1 := by decide +kernel
theorem tyX2_ok : ∀ k, k < 0 → parseFieldDescriptor (TX2 k).2.2.1 = some (tyX2 k) := by decide +kernel
abbrev cX2_isKind : ByteArray := prog_4_method_2_code
def yX2_isKind : MethodName := ⟨RX2, "isKind", "(I)Z"⟩
abbrev cX2_isAct : ByteArray := prog_4_method_3_code
def yX2_isAct : MethodName := ⟨RX2, "isAct", "(I)Z"⟩
abbrev cX2_isWay : ByteArray := prog_4_method_4_code
def yX2_isWay : MethodName := ⟨RX2, "isWay", "(I)Z"⟩
abbrev cX2_isType : ByteArray := prog_4_method_5_code
def yX2_isType : MethodName := ⟨RX2, "isType", "(I)Z"⟩
abbrev cX2_contains : ByteArray := prog_4_method_6_code
def yX2_contains : MethodName := ⟨RX2, "contains", "(II)Z"⟩
abbrev cX2_parentOf : ByteArray := prog_4_method_7_code
def yX2_parentOf : MethodName := ⟨RX2, "parentOf", "(I)I"⟩
abbrev cX2_namedBy : ByteArray := prog_4_method_8_code
def yX2_namedBy : MethodName := ⟨RX2, "namedBy", "(I)I"⟩
abbrev cX2_actsOfWay : ByteArray := prog_4_method_9_code
def yX2_actsOfWay : MethodName := ⟨RX2, "actsOfWay", "(I)I"⟩
abbrev cX2_bodyOf : ByteArray := prog_4_method_10_code
def yX2_bodyOf : MethodName := ⟨RX2, "bodyOf", "(II)I"⟩
abbrev cX2_faceOfWay : ByteArray := prog_4_method_11_code
def yX2_faceOfWay : MethodName := ⟨RX2, "faceOfWay", "(I)I"⟩
abbrev cX2_facesOf : ByteArray := prog_4_method_12_code
def yX2_facesOf : MethodName := ⟨RX2, "facesOf", "(I)I"⟩
abbrev cX2_waysOf : ByteArray := prog_4_method_13_code
def yX2_waysOf : MethodName := ⟨RX2, "waysOf", "(I)I"⟩
abbrev cX2_actsOfWays : ByteArray := prog_4_method_14_code
def yX2_actsOfWays : MethodName := ⟨RX2, "actsOfWays", "(I)I"⟩
abbrev cX2_selected : ByteArray := prog_4_method_15_code
def yX2_selected : MethodName := ⟨RX2, "selected", "(II)I"⟩
def RX3 : String := "LineOfKin$Link"
def TX3 : u_T := fun k => match k with
  | 0 => ("LineOfKin$Link", "to", "LLineOfKin$Device;", true)
  | _ => ("LineOfKin$Link", "next", "LLineOfKin$Link;", false)
def tyX3 : Nat → FieldType := fun k => match k with
  | 0 => .object "LineOfKin$Device"
  | _ => .object "LineOfKin$Link"
abbrev wsX30 : List Cond := u_ws RX3 TX3 2
theorem nmX3 : ∀ a, a < 2 → ∀ b, b < 2 → a ≠ b → (TX3 a).2.1 ≠ (TX3 b).2.1 := by decide +kernel
theorem tyX3_ok : ∀ k, k < 2 → parseFieldDescriptor (TX3 k).2.2.1 = some (tyX3 k) := by decide +kernel
abbrev cX3_init : ByteArray := prog_5_method_1_code
def yX3_init : MethodName := ⟨RX3, "<init>", "(LLineOfKin$Device;)V"⟩
def RX4 : String := "LineOfKin"
def TX4 : u_T := fun k => match k with
  | 0 => ("LineOfKin", "bodies", "LLineOfKin$Bodies;", true)
  | 1 => ("LineOfKin", "devices", "[LLineOfKin$Device;", true)
  | 2 => ("LineOfKin", "took", "[LLineOfKin$Device;", true)
  | 3 => ("LineOfKin", "deviceCount", "I", false)
  | 4 => ("LineOfKin", "linkCount", "I", false)
  | 5 => ("LineOfKin", "tookCount", "I", false)
  | 6 => ("LineOfKin", "pulse", "I", false)
  | _ => ("LineOfKin", "latestStatus", "I", false)
def tyX4 : Nat → FieldType := fun k => match k with
  | 0 => .object "LineOfKin$Bodies"
  | 1 => .array (.object "LineOfKin$Device")
  | 2 => .array (.object "LineOfKin$Device")
  | 3 => .int
  | 4 => .int
  | 5 => .int
  | 6 => .int
  | _ => .int
abbrev wsX40 : List Cond := u_ws RX4 TX4 8
theorem nmX4 : ∀ a, a < 8 → ∀ b, b < 8 → a ≠ b → (TX4 a).2.1 ≠ (TX4 b).2.1 := by decide +kernel
theorem tyX4_ok : ∀ k, k < 8 → parseFieldDescriptor (TX4 k).2.2.1 = some (tyX4 k) := by decide +kernel
abbrev cX4_init : ByteArray := prog_1_method_1_code
def yX4_init : MethodName := ⟨RX4, "<init>", "()V"⟩
abbrev cX4_device : ByteArray := prog_1_method_2_code
def yX4_device : MethodName := ⟨RX4, "device", "(II)I"⟩
abbrev cX4_call : ByteArray := prog_1_method_3_code
def yX4_call : MethodName := ⟨RX4, "call", "(IIII)I"⟩
abbrev cX4_every : ByteArray := prog_1_method_4_code
def yX4_every : MethodName := ⟨RX4, "every", "(III)I"⟩
abbrev cX4_feed : ByteArray := prog_1_method_5_code
def yX4_feed : MethodName := ⟨RX4, "feed", "(II)I"⟩
abbrev cX4_link : ByteArray := prog_1_method_6_code
def yX4_link : MethodName := ⟨RX4, "link", "(II)I"⟩
abbrev cX4_pass : ByteArray := prog_1_method_7_code
def yX4_pass : MethodName := ⟨RX4, "pass", "(II)I"⟩
abbrev cX4_able : ByteArray := prog_1_method_8_code
def yX4_able : MethodName := ⟨RX4, "able", "(II)I"⟩
abbrev cX4_chain : ByteArray := prog_1_method_9_code
def yX4_chain : MethodName := ⟨RX4, "chain", "(I)I"⟩
abbrev cX4_ran : ByteArray := prog_1_method_10_code
def yX4_ran : MethodName := ⟨RX4, "ran", "()I"⟩
abbrev cX4_state : ByteArray := prog_1_method_11_code
def yX4_state : MethodName := ⟨RX4, "state", "(II)I"⟩
abbrev cX4_size : ByteArray := prog_1_method_12_code
def yX4_size : MethodName := ⟨RX4, "size", "(I)I"⟩
abbrev cX4_status : ByteArray := prog_1_method_13_code
def yX4_status : MethodName := ⟨RX4, "status", "()I"⟩
abbrev cX4_find : ByteArray := prog_1_method_14_code
def yX4_find : MethodName := ⟨RX4, "find", "(I)LLineOfKin$Device;"⟩
abbrev cX4_refusal : ByteArray := prog_1_method_15_code
def yX4_refusal : MethodName := ⟨RX4, "refusal", "(LLineOfKin$Device;II)I"⟩
abbrev cX4_refusalOfEvery : ByteArray := prog_1_method_16_code
def yX4_refusalOfEvery : MethodName := ⟨RX4, "refusalOfEvery", "(II)I"⟩
abbrev cX4_answerToByte : ByteArray := prog_1_method_17_code
def yX4_answerToByte : MethodName := ⟨RX4, "answerToByte", "(LLineOfKin$Device;II)I"⟩
abbrev cX4_letTake : ByteArray := prog_1_method_18_code
def yX4_letTake : MethodName := ⟨RX4, "letTake", "(LLineOfKin$Device;I)V"⟩
abbrev cX4_handOn : ByteArray := prog_1_method_19_code
def yX4_handOn : MethodName := ⟨RX4, "handOn", "(LLineOfKin$Device;)V"⟩
abbrev cX4_countBearersOf : ByteArray := prog_1_method_20_code
def yX4_countBearersOf : MethodName := ⟨RX4, "countBearersOf", "(I)I"⟩
def RX5 : String := "LineOfKinModel"
def TX5 : u_T := fun k => match k with
  | 0 => ("LineOfKinModel", "code", "[I", true)
  | 1 => ("LineOfKinModel", "start", "[I", true)
  | 2 => ("LineOfKinModel", "parent", "[I", true)
  | 3 => ("LineOfKinModel", "bears", "[I", true)
  | 4 => ("LineOfKinModel", "has", "[I", true)
  | 5 => ("LineOfKinModel", "chosen", "[I", true)
  | 6 => ("LineOfKinModel", "actsOf", "[I", true)
  | 7 => ("LineOfKinModel", "actsOfKind", "[I", true)
  | 8 => ("LineOfKinModel", "kindOf", "[I", true)
  | 9 => ("LineOfKinModel", "valueOf", "[I", true)
  | 10 => ("LineOfKinModel", "countOf", "[I", true)
  | 11 => ("LineOfKinModel", "takenOf", "[I", true)
  | 12 => ("LineOfKinModel", "devices", "I", false)
  | 13 => ("LineOfKinModel", "from", "[I", true)
  | 14 => ("LineOfKinModel", "to", "[I", true)
  | 15 => ("LineOfKinModel", "links", "I", false)
  | 16 => ("LineOfKinModel", "row", "[I", true)
  | 17 => ("LineOfKinModel", "answer", "[I", true)
  | 18 => ("LineOfKinModel", "isIn", "[Z", true)
  | 19 => ("LineOfKinModel", "kept", "[I", true)
  | 20 => ("LineOfKinModel", "began", "I", false)
  | 21 => ("LineOfKinModel", "status", "I", false)
  | 22 => ("LineOfKinModel", "frameBody", "[I", true)
  | 23 => ("LineOfKinModel", "frameAt", "[I", true)
  | 24 => ("LineOfKinModel", "frameX", "[I", true)
  | 25 => ("LineOfKinModel", "pile", "[I", true)
  | 26 => ("LineOfKinModel", "frames", "I", false)
  | _ => ("LineOfKinModel", "piled", "I", false)
def tyX5 : Nat → FieldType := fun k => match k with
  | 0 => .array .int
  | 1 => .array .int
  | 2 => .array .int
  | 3 => .array .int
  | 4 => .array .int
  | 5 => .array .int
  | 6 => .array .int
  | 7 => .array .int
  | 8 => .array .int
  | 9 => .array .int
  | 10 => .array .int
  | 11 => .array .int
  | 12 => .int
  | 13 => .array .int
  | 14 => .array .int
  | 15 => .int
  | 16 => .array .int
  | 17 => .array .int
  | 18 => .array .boolean
  | 19 => .array .int
  | 20 => .int
  | 21 => .int
  | 22 => .array .int
  | 23 => .array .int
  | 24 => .array .int
  | 25 => .array .int
  | 26 => .int
  | _ => .int
abbrev wsX50 : List Cond := u_ws RX5 TX5 28
theorem nmX5 : ∀ a, a < 28 → ∀ b, b < 28 → a ≠ b → (TX5 a).2.1 ≠ (TX5 b).2.1 := by decide +kernel
theorem tyX5_ok : ∀ k, k < 28 → parseFieldDescriptor (TX5 k).2.2.1 = some (tyX5 k) := by decide +kernel
abbrev cX5_init : ByteArray := prog_7_method_1_code
def yX5_init : MethodName := ⟨RX5, "<init>", "()V"⟩
abbrev cX5_bit : ByteArray := prog_7_method_2_code
def yX5_bit : MethodName := ⟨RX5, "bit", "(I)I"⟩
abbrev cX5_have : ByteArray := prog_7_method_3_code
def yX5_have : MethodName := ⟨RX5, "have", "(III)V"⟩
abbrev cX5_closed : ByteArray := prog_7_method_4_code
def yX5_closed : MethodName := ⟨RX5, "closed", "(I)I"⟩
abbrev cX5_heir : ByteArray := prog_7_method_5_code
def yX5_heir : MethodName := ⟨RX5, "heir", "(III)V"⟩
abbrev cX5_select : ByteArray := prog_7_method_6_code
def yX5_select : MethodName := ⟨RX5, "select", "(II)I"⟩
abbrev cX5_lowest : ByteArray := prog_7_method_7_code
def yX5_lowest : MethodName := ⟨RX5, "lowest", "(II)I"⟩
abbrev cX5_push : ByteArray := prog_7_method_8_code
def yX5_push : MethodName := ⟨RX5, "push", "(I)V"⟩
abbrev cX5_pop : ByteArray := prog_7_method_9_code
def yX5_pop : MethodName := ⟨RX5, "pop", "()I"⟩
abbrev cX5_enter : ByteArray := prog_7_method_10_code
def yX5_enter : MethodName := ⟨RX5, "enter", "(II)V"⟩
abbrev cX5_act : ByteArray := prog_7_method_11_code
def yX5_act : MethodName := ⟨RX5, "act", "(III)I"⟩
abbrev cX5_step : ByteArray := prog_7_method_12_code
def yX5_step : MethodName := ⟨RX5, "step", "(III)V"⟩
abbrev cX5_isDevice : ByteArray := prog_7_method_13_code
def yX5_isDevice : MethodName := ⟨RX5, "isDevice", "(I)Z"⟩
abbrev cX5_isAct : ByteArray := prog_7_method_14_code
def yX5_isAct : MethodName := ⟨RX5, "isAct", "(I)Z"⟩
abbrev cX5_isWay : ByteArray := prog_7_method_15_code
def yX5_isWay : MethodName := ⟨RX5, "isWay", "(I)Z"⟩
abbrev cX5_isAble : ByteArray := prog_7_method_16_code
def yX5_isAble : MethodName := ⟨RX5, "isAble", "(II)Z"⟩
abbrev cX5_isOf : ByteArray := prog_7_method_17_code
def yX5_isOf : MethodName := ⟨RX5, "isOf", "(III)Z"⟩
abbrev cX5_refused : ByteArray := prog_7_method_18_code
def yX5_refused : MethodName := ⟨RX5, "refused", "(I)I"⟩
abbrev cX5_why : ByteArray := prog_7_method_19_code
def yX5_why : MethodName := ⟨RX5, "why", "(III)I"⟩
abbrev cX5_begin : ByteArray := prog_7_method_20_code
def yX5_begin : MethodName := ⟨RX5, "begin", "()V"⟩
abbrev cX5_device : ByteArray := prog_7_method_21_code
def yX5_device : MethodName := ⟨RX5, "device", "(II)I"⟩
abbrev cX5_call : ByteArray := prog_7_method_22_code
def yX5_call : MethodName := ⟨RX5, "call", "(IIII)I"⟩
abbrev cX5_every : ByteArray := prog_7_method_23_code
def yX5_every : MethodName := ⟨RX5, "every", "(III)I"⟩
abbrev cX5_feed : ByteArray := prog_7_method_24_code
def yX5_feed : MethodName := ⟨RX5, "feed", "(II)I"⟩
abbrev cX5_link : ByteArray := prog_7_method_25_code
def yX5_link : MethodName := ⟨RX5, "link", "(II)I"⟩
abbrev cX5_takes : ByteArray := prog_7_method_26_code
def yX5_takes : MethodName := ⟨RX5, "takes", "(II)I"⟩
abbrev cX5_pass : ByteArray := prog_7_method_27_code
def yX5_pass : MethodName := ⟨RX5, "pass", "(II)I"⟩
abbrev cX5_able : ByteArray := prog_7_method_28_code
def yX5_able : MethodName := ⟨RX5, "able", "(II)I"⟩
abbrev cX5_chain : ByteArray := prog_7_method_29_code
def yX5_chain : MethodName := ⟨RX5, "chain", "(I)I"⟩
abbrev cX5_ran : ByteArray := prog_7_method_30_code
def yX5_ran : MethodName := ⟨RX5, "ran", "()I"⟩
abbrev cX5_state : ByteArray := prog_7_method_31_code
def yX5_state : MethodName := ⟨RX5, "state", "(II)I"⟩
abbrev cX5_size : ByteArray := prog_7_method_32_code
def yX5_size : MethodName := ⟨RX5, "size", "(I)I"⟩
abbrev cX5_status : ByteArray := prog_7_method_33_code
def yX5_status : MethodName := ⟨RX5, "status", "()I"⟩
def RL : String := "LineOfKinLaw"
abbrev cL_law : ByteArray := code
def yL_law : MethodName := ⟨RL, "law", "([I)Z"⟩

abbrev vwCl : List vw_C := [(RX0, TX0, 3), (RX1, TX1, 12), (RX3, TX3, 2), (RX4, TX4, 8), (RX5, TX5, 28)]
end
section
theorem dX0_init_0 : decode cX0_init 0 = .ok (.aload_n 0, 1) := by decide +kernel
theorem dX0_init_1 : decode cX0_init 1 = .ok (.invokespecial 3, 3) := by decide +kernel
theorem dX0_init_4 : decode cX0_init 4 = .ok (.aload_n 0, 1) := by decide +kernel
theorem dX0_init_5 : decode cX0_init 5 = .ok (.bipush 64, 2) := by decide +kernel
theorem dX0_init_7 : decode cX0_init 7 = .ok (.newarray .int, 2) := by decide +kernel
theorem dX0_init_9 : decode cX0_init 9 = .ok (.putfield 11, 3) := by decide +kernel
theorem dX0_init_12 : decode cX0_init 12 = .ok (.aload_n 0, 1) := by decide +kernel
theorem dX0_init_13 : decode cX0_init 13 = .ok (.sipush 216, 3) := by decide +kernel
theorem dX0_init_16 : decode cX0_init 16 = .ok (.newarray .int, 2) := by decide +kernel
theorem dX0_init_18 : decode cX0_init 18 = .ok (.putfield 17, 3) := by decide +kernel
theorem dX0_init_21 : decode cX0_init 21 = .ok (.iconst 0, 1) := by decide +kernel
theorem dX0_init_22 : decode cX0_init 22 = .ok (.istore_n 1, 1) := by decide +kernel
theorem dX0_init_23 : decode cX0_init 23 = .ok (.iload_n 1, 1) := by decide +kernel
theorem dX0_init_24 : decode cX0_init 24 = .ok (.aload_n 0, 1) := by decide +kernel
theorem dX0_init_25 : decode cX0_init 25 = .ok (.getfield 17, 3) := by decide +kernel
theorem dX0_init_28 : decode cX0_init 28 = .ok (.arraylength, 1) := by decide +kernel
theorem dX0_init_29 : decode cX0_init 29 = .ok (.if_icmp .ge 26, 3) := by decide +kernel
theorem dX0_init_32 : decode cX0_init 32 = .ok (.aload_n 0, 1) := by decide +kernel
theorem dX0_init_33 : decode cX0_init 33 = .ok (.getfield 17, 3) := by decide +kernel
theorem dX0_init_36 : decode cX0_init 36 = .ok (.iload_n 1, 1) := by decide +kernel
theorem dX0_init_37 : decode cX0_init 37 = .ok (.iload_n 1, 1) := by decide +kernel
theorem dX0_init_38 : decode cX0_init 38 = .ok (.bipush 12, 2) := by decide +kernel
theorem dX0_init_40 : decode cX0_init 40 = .ok (.idiv, 1) := by decide +kernel
theorem dX0_init_41 : decode cX0_init 41 = .ok (.iload_n 1, 1) := by decide +kernel
theorem dX0_init_42 : decode cX0_init 42 = .ok (.bipush 12, 2) := by decide +kernel
theorem dX0_init_44 : decode cX0_init 44 = .ok (.irem, 1) := by decide +kernel
theorem dX0_init_45 : decode cX0_init 45 = .ok (.invokestatic 20, 3) := by decide +kernel
theorem dX0_init_48 : decode cX0_init 48 = .ok (.iastore, 1) := by decide +kernel
theorem dX0_init_49 : decode cX0_init 49 = .ok (.iinc 1 1, 3) := by decide +kernel
theorem dX0_init_52 : decode cX0_init 52 = .ok (.goto (-29), 3) := by decide +kernel
theorem dX0_init_55 : decode cX0_init 55 = .ok (.return_, 1) := by decide +kernel
theorem dX0_forgetChain_0 : decode cX0_forgetChain 0 = .ok (.aload_n 0, 1) := by decide +kernel
theorem dX0_forgetChain_1 : decode cX0_forgetChain 1 = .ok (.iconst 0, 1) := by decide +kernel
theorem dX0_forgetChain_2 : decode cX0_forgetChain 2 = .ok (.putfield 24, 3) := by decide +kernel
theorem dX0_forgetChain_5 : decode cX0_forgetChain 5 = .ok (.return_, 1) := by decide +kernel
theorem dX0_keptAt_0 : decode cX0_keptAt 0 = .ok (.iload_n 1, 1) := by decide +kernel
theorem dX0_keptAt_1 : decode cX0_keptAt 1 = .ok (.ifCond .lt 26, 3) := by decide +kernel
theorem dX0_keptAt_4 : decode cX0_keptAt 4 = .ok (.iload_n 1, 1) := by decide +kernel
theorem dX0_keptAt_5 : decode cX0_keptAt 5 = .ok (.aload_n 0, 1) := by decide +kernel
theorem dX0_keptAt_6 : decode cX0_keptAt 6 = .ok (.getfield 24, 3) := by decide +kernel
theorem dX0_keptAt_9 : decode cX0_keptAt 9 = .ok (.if_icmp .ge 18, 3) := by decide +kernel
theorem dX0_keptAt_12 : decode cX0_keptAt 12 = .ok (.iload_n 1, 1) := by decide +kernel
theorem dX0_keptAt_13 : decode cX0_keptAt 13 = .ok (.bipush 64, 2) := by decide +kernel
theorem dX0_keptAt_15 : decode cX0_keptAt 15 = .ok (.if_icmp .ge 12, 3) := by decide +kernel
theorem dX0_keptAt_18 : decode cX0_keptAt 18 = .ok (.aload_n 0, 1) := by decide +kernel
theorem dX0_keptAt_19 : decode cX0_keptAt 19 = .ok (.getfield 11, 3) := by decide +kernel
theorem dX0_keptAt_22 : decode cX0_keptAt 22 = .ok (.iload_n 1, 1) := by decide +kernel
theorem dX0_keptAt_23 : decode cX0_keptAt 23 = .ok (.iaload, 1) := by decide +kernel
theorem dX0_keptAt_24 : decode cX0_keptAt 24 = .ok (.goto 4, 3) := by decide +kernel
theorem dX0_keptAt_27 : decode cX0_keptAt 27 = .ok (.iconst (-1), 1) := by decide +kernel
theorem dX0_keptAt_28 : decode cX0_keptAt 28 = .ok (.ireturn, 1) := by decide +kernel
theorem dX0_selected_0 : decode cX0_selected 0 = .ok (.iload_n 1, 1) := by decide +kernel
theorem dX0_selected_1 : decode cX0_selected 1 = .ok (.ifCond .lt 19, 3) := by decide +kernel
theorem dX0_selected_4 : decode cX0_selected 4 = .ok (.iload_n 1, 1) := by decide +kernel
theorem dX0_selected_5 : decode cX0_selected 5 = .ok (.bipush 18, 2) := by decide +kernel
theorem dX0_selected_7 : decode cX0_selected 7 = .ok (.if_icmp .ge 13, 3) := by decide +kernel
theorem dX0_selected_10 : decode cX0_selected 10 = .ok (.iload_n 2, 1) := by decide +kernel
theorem dX0_selected_11 : decode cX0_selected 11 = .ok (.ifCond .lt 9, 3) := by decide +kernel
theorem dX0_selected_14 : decode cX0_selected 14 = .ok (.iload_n 2, 1) := by decide +kernel
theorem dX0_selected_15 : decode cX0_selected 15 = .ok (.bipush 12, 2) := by decide +kernel
theorem dX0_selected_17 : decode cX0_selected 17 = .ok (.if_icmp .lt 5, 3) := by decide +kernel
theorem dX0_selected_20 : decode cX0_selected 20 = .ok (.iconst 0, 1) := by decide +kernel
theorem dX0_selected_21 : decode cX0_selected 21 = .ok (.ireturn, 1) := by decide +kernel
theorem dX0_selected_22 : decode cX0_selected 22 = .ok (.aload_n 0, 1) := by decide +kernel
theorem dX0_selected_23 : decode cX0_selected 23 = .ok (.getfield 17, 3) := by decide +kernel
theorem dX0_selected_26 : decode cX0_selected 26 = .ok (.iload_n 1, 1) := by decide +kernel
theorem dX0_selected_27 : decode cX0_selected 27 = .ok (.bipush 12, 2) := by decide +kernel
theorem dX0_selected_29 : decode cX0_selected 29 = .ok (.imul, 1) := by decide +kernel
theorem dX0_selected_30 : decode cX0_selected 30 = .ok (.iload_n 2, 1) := by decide +kernel
theorem dX0_selected_31 : decode cX0_selected 31 = .ok (.iadd, 1) := by decide +kernel
theorem dX0_selected_32 : decode cX0_selected 32 = .ok (.iaload, 1) := by decide +kernel
theorem dX0_selected_33 : decode cX0_selected 33 = .ok (.ireturn, 1) := by decide +kernel
theorem dX0_answer_0 : decode cX0_answer 0 = .ok (.aload_n 0, 1) := by decide +kernel
theorem dX0_answer_1 : decode cX0_answer 1 = .ok (.aload_n 1, 1) := by decide +kernel
theorem dX0_answer_2 : decode cX0_answer 2 = .ok (.aload_n 0, 1) := by decide +kernel
theorem dX0_answer_3 : decode cX0_answer 3 = .ok (.aload_n 1, 1) := by decide +kernel
theorem dX0_answer_4 : decode cX0_answer 4 = .ok (.getfield 28, 3) := by decide +kernel
theorem dX0_answer_7 : decode cX0_answer 7 = .ok (.iload_n 2, 1) := by decide +kernel
theorem dX0_answer_8 : decode cX0_answer 8 = .ok (.invokevirtual 33, 3) := by decide +kernel
theorem dX0_answer_11 : decode cX0_answer 11 = .ok (.iload_n 3, 1) := by decide +kernel
theorem dX0_answer_12 : decode cX0_answer 12 = .ok (.iload 4, 2) := by decide +kernel
theorem dX0_answer_14 : decode cX0_answer 14 = .ok (.invokevirtual 34, 3) := by decide +kernel
theorem dX0_answer_17 : decode cX0_answer 17 = .ok (.ireturn, 1) := by decide +kernel
theorem dX0_above_0 : decode cX0_above 0 = .ok (.aload_n 0, 1) := by decide +kernel
theorem dX0_above_1 : decode cX0_above 1 = .ok (.aload_n 2, 1) := by decide +kernel
theorem dX0_above_2 : decode cX0_above 2 = .ok (.aload_n 0, 1) := by decide +kernel
theorem dX0_above_3 : decode cX0_above 3 = .ok (.iload_n 1, 1) := by decide +kernel
theorem dX0_above_4 : decode cX0_above 4 = .ok (.invokestatic 38, 3) := by decide +kernel
theorem dX0_above_7 : decode cX0_above 7 = .ok (.iload_n 3, 1) := by decide +kernel
theorem dX0_above_8 : decode cX0_above 8 = .ok (.invokevirtual 33, 3) := by decide +kernel
theorem dX0_above_11 : decode cX0_above 11 = .ok (.iload 4, 2) := by decide +kernel
theorem dX0_above_13 : decode cX0_above 13 = .ok (.iload 5, 2) := by decide +kernel
theorem dX0_above_15 : decode cX0_above 15 = .ok (.invokevirtual 34, 3) := by decide +kernel
theorem dX0_above_18 : decode cX0_above 18 = .ok (.ireturn, 1) := by decide +kernel
theorem dX0_by_0 : decode cX0_by 0 = .ok (.aload_n 0, 1) := by decide +kernel
theorem dX0_by_1 : decode cX0_by 1 = .ok (.aload_n 2, 1) := by decide +kernel
theorem dX0_by_2 : decode cX0_by 2 = .ok (.aload_n 0, 1) := by decide +kernel
theorem dX0_by_3 : decode cX0_by 3 = .ok (.iload_n 1, 1) := by decide +kernel
theorem dX0_by_4 : decode cX0_by 4 = .ok (.iload_n 3, 1) := by decide +kernel
theorem dX0_by_5 : decode cX0_by 5 = .ok (.invokevirtual 33, 3) := by decide +kernel
theorem dX0_by_8 : decode cX0_by 8 = .ok (.iload 4, 2) := by decide +kernel
theorem dX0_by_10 : decode cX0_by 10 = .ok (.iload 5, 2) := by decide +kernel
theorem dX0_by_12 : decode cX0_by 12 = .ok (.invokevirtual 34, 3) := by decide +kernel
theorem dX0_by_15 : decode cX0_by 15 = .ok (.ireturn, 1) := by decide +kernel
theorem dX0_run_0 : decode cX0_run 0 = .ok (.iload_n 2, 1) := by decide +kernel
theorem dX0_run_1 : decode cX0_run 1 = .ok (.ifCond .eq 10, 3) := by decide +kernel
theorem dX0_run_4 : decode cX0_run 4 = .ok (.iload 4, 2) := by decide +kernel
theorem dX0_run_6 : decode cX0_run 6 = .ok (.bipush 40, 2) := by decide +kernel
theorem dX0_run_8 : decode cX0_run 8 = .ok (.if_icmp .le 5, 3) := by decide +kernel
theorem dX0_run_11 : decode cX0_run 11 = .ok (.iconst 0, 1) := by decide +kernel
theorem dX0_run_12 : decode cX0_run 12 = .ok (.ireturn, 1) := by decide +kernel
theorem dX0_run_13 : decode cX0_run 13 = .ok (.aload_n 0, 1) := by decide +kernel
theorem dX0_run_14 : decode cX0_run 14 = .ok (.iload_n 2, 1) := by decide +kernel
theorem dX0_run_15 : decode cX0_run 15 = .ok (.invokevirtual 42, 3) := by decide +kernel
theorem dX0_run_18 : decode cX0_run 18 = .ok (.iload_n 2, 1) := by decide +kernel
theorem dX0_run_19 : decode cX0_run 19 = .ok (.bipush 60, 2) := by decide +kernel
theorem dX0_run_21 : decode cX0_run 21 = .ok (.if_icmp .ge 15, 3) := by decide +kernel
theorem dX0_run_24 : decode cX0_run 24 = .ok (.aload_n 0, 1) := by decide +kernel
theorem dX0_run_25 : decode cX0_run 25 = .ok (.aload_n 1, 1) := by decide +kernel
theorem dX0_run_26 : decode cX0_run 26 = .ok (.iload_n 2, 1) := by decide +kernel
theorem dX0_run_27 : decode cX0_run 27 = .ok (.iload_n 3, 1) := by decide +kernel
theorem dX0_run_28 : decode cX0_run 28 = .ok (.iload 4, 2) := by decide +kernel
theorem dX0_run_30 : decode cX0_run 30 = .ok (.iconst 1, 1) := by decide +kernel
theorem dX0_run_31 : decode cX0_run 31 = .ok (.iadd, 1) := by decide +kernel
theorem dX0_run_32 : decode cX0_run 32 = .ok (.invokevirtual 46, 3) := by decide +kernel
theorem dX0_run_35 : decode cX0_run 35 = .ok (.ireturn, 1) := by decide +kernel
theorem dX0_run_36 : decode cX0_run 36 = .ok (.iload_n 2, 1) := by decide +kernel
theorem dX0_run_37 : decode cX0_run 37 = .ok (.bipush 100, 2) := by decide +kernel
theorem dX0_run_39 : decode cX0_run 39 = .ok (.if_icmp .ge 15, 3) := by decide +kernel
theorem dX0_run_42 : decode cX0_run 42 = .ok (.aload_n 0, 1) := by decide +kernel
theorem dX0_run_43 : decode cX0_run 43 = .ok (.aload_n 1, 1) := by decide +kernel
theorem dX0_run_44 : decode cX0_run 44 = .ok (.iload_n 2, 1) := by decide +kernel
theorem dX0_run_45 : decode cX0_run 45 = .ok (.iload_n 3, 1) := by decide +kernel
theorem dX0_run_46 : decode cX0_run 46 = .ok (.iload 4, 2) := by decide +kernel
theorem dX0_run_48 : decode cX0_run 48 = .ok (.iconst 1, 1) := by decide +kernel
theorem dX0_run_49 : decode cX0_run 49 = .ok (.iadd, 1) := by decide +kernel
theorem dX0_run_50 : decode cX0_run 50 = .ok (.invokevirtual 49, 3) := by decide +kernel
theorem dX0_run_53 : decode cX0_run 53 = .ok (.ireturn, 1) := by decide +kernel
theorem dX0_run_54 : decode cX0_run 54 = .ok (.iload_n 2, 1) := by decide +kernel
theorem dX0_run_55 : decode cX0_run 55 = .ok (.sipush 140, 3) := by decide +kernel
theorem dX0_run_58 : decode cX0_run 58 = .ok (.if_icmp .ge 15, 3) := by decide +kernel
theorem dX0_run_61 : decode cX0_run 61 = .ok (.aload_n 0, 1) := by decide +kernel
theorem dX0_run_62 : decode cX0_run 62 = .ok (.aload_n 1, 1) := by decide +kernel
theorem dX0_run_63 : decode cX0_run 63 = .ok (.iload_n 2, 1) := by decide +kernel
theorem dX0_run_64 : decode cX0_run 64 = .ok (.iload_n 3, 1) := by decide +kernel
theorem dX0_run_65 : decode cX0_run 65 = .ok (.iload 4, 2) := by decide +kernel
theorem dX0_run_67 : decode cX0_run 67 = .ok (.iconst 1, 1) := by decide +kernel
theorem dX0_run_68 : decode cX0_run 68 = .ok (.iadd, 1) := by decide +kernel
theorem dX0_run_69 : decode cX0_run 69 = .ok (.invokevirtual 52, 3) := by decide +kernel
theorem dX0_run_72 : decode cX0_run 72 = .ok (.ireturn, 1) := by decide +kernel
theorem dX0_run_73 : decode cX0_run 73 = .ok (.iload_n 2, 1) := by decide +kernel
theorem dX0_run_74 : decode cX0_run 74 = .ok (.sipush 180, 3) := by decide +kernel
theorem dX0_run_77 : decode cX0_run 77 = .ok (.if_icmp .ge 17, 3) := by decide +kernel
theorem dX0_run_80 : decode cX0_run 80 = .ok (.aload_n 0, 1) := by decide +kernel
theorem dX0_run_81 : decode cX0_run 81 = .ok (.aload_n 1, 1) := by decide +kernel
theorem dX0_run_82 : decode cX0_run 82 = .ok (.iload_n 2, 1) := by decide +kernel
theorem dX0_run_83 : decode cX0_run 83 = .ok (.iload_n 3, 1) := by decide +kernel
theorem dX0_run_84 : decode cX0_run 84 = .ok (.iload 4, 2) := by decide +kernel
theorem dX0_run_86 : decode cX0_run 86 = .ok (.iconst 1, 1) := by decide +kernel
theorem dX0_run_87 : decode cX0_run 87 = .ok (.iadd, 1) := by decide +kernel
theorem dX0_run_88 : decode cX0_run 88 = .ok (.invokevirtual 55, 3) := by decide +kernel
theorem dX0_run_91 : decode cX0_run 91 = .ok (.goto 14, 3) := by decide +kernel
theorem dX0_run_94 : decode cX0_run 94 = .ok (.aload_n 0, 1) := by decide +kernel
theorem dX0_run_95 : decode cX0_run 95 = .ok (.aload_n 1, 1) := by decide +kernel
theorem dX0_run_96 : decode cX0_run 96 = .ok (.iload_n 2, 1) := by decide +kernel
theorem dX0_run_97 : decode cX0_run 97 = .ok (.iload_n 3, 1) := by decide +kernel
theorem dX0_run_98 : decode cX0_run 98 = .ok (.iload 4, 2) := by decide +kernel
theorem dX0_run_100 : decode cX0_run 100 = .ok (.iconst 1, 1) := by decide +kernel
theorem dX0_run_101 : decode cX0_run 101 = .ok (.iadd, 1) := by decide +kernel
theorem dX0_run_102 : decode cX0_run 102 = .ok (.invokevirtual 58, 3) := by decide +kernel
theorem dX0_run_105 : decode cX0_run 105 = .ok (.ireturn, 1) := by decide +kernel
theorem dX0_begin_0 : decode cX0_begin 0 = .ok (.aload_n 0, 1) := by decide +kernel
theorem dX0_begin_1 : decode cX0_begin 1 = .ok (.getfield 24, 3) := by decide +kernel
theorem dX0_begin_4 : decode cX0_begin 4 = .ok (.ifCond .lt 22, 3) := by decide +kernel
theorem dX0_begin_7 : decode cX0_begin 7 = .ok (.aload_n 0, 1) := by decide +kernel
theorem dX0_begin_8 : decode cX0_begin 8 = .ok (.getfield 24, 3) := by decide +kernel
theorem dX0_begin_11 : decode cX0_begin 11 = .ok (.bipush 64, 2) := by decide +kernel
theorem dX0_begin_13 : decode cX0_begin 13 = .ok (.if_icmp .ge 13, 3) := by decide +kernel
theorem dX0_begin_16 : decode cX0_begin 16 = .ok (.aload_n 0, 1) := by decide +kernel
theorem dX0_begin_17 : decode cX0_begin 17 = .ok (.getfield 11, 3) := by decide +kernel
theorem dX0_begin_20 : decode cX0_begin 20 = .ok (.aload_n 0, 1) := by decide +kernel
theorem dX0_begin_21 : decode cX0_begin 21 = .ok (.getfield 24, 3) := by decide +kernel
theorem dX0_begin_24 : decode cX0_begin 24 = .ok (.iload_n 1, 1) := by decide +kernel
theorem dX0_begin_25 : decode cX0_begin 25 = .ok (.iastore, 1) := by decide +kernel
theorem dX0_begin_26 : decode cX0_begin 26 = .ok (.aload_n 0, 1) := by decide +kernel
theorem dX0_begin_27 : decode cX0_begin 27 = .ok (.dup, 1) := by decide +kernel
theorem dX0_begin_28 : decode cX0_begin 28 = .ok (.getfield 24, 3) := by decide +kernel
theorem dX0_begin_31 : decode cX0_begin 31 = .ok (.iconst 1, 1) := by decide +kernel
theorem dX0_begin_32 : decode cX0_begin 32 = .ok (.iadd, 1) := by decide +kernel
theorem dX0_begin_33 : decode cX0_begin 33 = .ok (.putfield 24, 3) := by decide +kernel
theorem dX0_begin_36 : decode cX0_begin 36 = .ok (.return_, 1) := by decide +kernel
theorem dX0_runOfInterface_0 : decode cX0_runOfInterface 0 = .ok (.iload_n 2, 1) := by decide +kernel
theorem dX0_runOfInterface_1 : decode cX0_runOfInterface 1 = .ok (.lookupswitch 281 #[(10, 91), (11, 103), (20, 127), (21, 149), (30, 162), (40, 188), (41, 200), (50, 224), (51, 248), (52, 269)], 91) := by decide +kernel
theorem dX0_runOfInterface_92 : decode cX0_runOfInterface 92 = .ok (.aload_n 0, 1) := by decide +kernel
theorem dX0_runOfInterface_93 : decode cX0_runOfInterface 93 = .ok (.aload_n 1, 1) := by decide +kernel
theorem dX0_runOfInterface_94 : decode cX0_runOfInterface 94 = .ok (.iconst 0, 1) := by decide +kernel
theorem dX0_runOfInterface_95 : decode cX0_runOfInterface 95 = .ok (.iload_n 3, 1) := by decide +kernel
theorem dX0_runOfInterface_96 : decode cX0_runOfInterface 96 = .ok (.iload 4, 2) := by decide +kernel
theorem dX0_runOfInterface_98 : decode cX0_runOfInterface 98 = .ok (.invokevirtual 61, 3) := by decide +kernel
theorem dX0_runOfInterface_101 : decode cX0_runOfInterface 101 = .ok (.iconst 1, 1) := by decide +kernel
theorem dX0_runOfInterface_102 : decode cX0_runOfInterface 102 = .ok (.iadd, 1) := by decide +kernel
theorem dX0_runOfInterface_103 : decode cX0_runOfInterface 103 = .ok (.ireturn, 1) := by decide +kernel
theorem dX0_runOfInterface_104 : decode cX0_runOfInterface 104 = .ok (.aload_n 0, 1) := by decide +kernel
theorem dX0_runOfInterface_105 : decode cX0_runOfInterface 105 = .ok (.aload_n 1, 1) := by decide +kernel
theorem dX0_runOfInterface_106 : decode cX0_runOfInterface 106 = .ok (.iconst 1, 1) := by decide +kernel
theorem dX0_runOfInterface_107 : decode cX0_runOfInterface 107 = .ok (.iload_n 3, 1) := by decide +kernel
theorem dX0_runOfInterface_108 : decode cX0_runOfInterface 108 = .ok (.iload 4, 2) := by decide +kernel
theorem dX0_runOfInterface_110 : decode cX0_runOfInterface 110 = .ok (.invokevirtual 61, 3) := by decide +kernel
theorem dX0_runOfInterface_113 : decode cX0_runOfInterface 113 = .ok (.iconst 3, 1) := by decide +kernel
theorem dX0_runOfInterface_114 : decode cX0_runOfInterface 114 = .ok (.imul, 1) := by decide +kernel
theorem dX0_runOfInterface_115 : decode cX0_runOfInterface 115 = .ok (.aload_n 0, 1) := by decide +kernel
theorem dX0_runOfInterface_116 : decode cX0_runOfInterface 116 = .ok (.aload_n 1, 1) := by decide +kernel
theorem dX0_runOfInterface_117 : decode cX0_runOfInterface 117 = .ok (.iconst 0, 1) := by decide +kernel
theorem dX0_runOfInterface_118 : decode cX0_runOfInterface 118 = .ok (.iload_n 3, 1) := by decide +kernel
theorem dX0_runOfInterface_119 : decode cX0_runOfInterface 119 = .ok (.iconst 1, 1) := by decide +kernel
theorem dX0_runOfInterface_120 : decode cX0_runOfInterface 120 = .ok (.iadd, 1) := by decide +kernel
theorem dX0_runOfInterface_121 : decode cX0_runOfInterface 121 = .ok (.iload 4, 2) := by decide +kernel
theorem dX0_runOfInterface_123 : decode cX0_runOfInterface 123 = .ok (.invokevirtual 61, 3) := by decide +kernel
theorem dX0_runOfInterface_126 : decode cX0_runOfInterface 126 = .ok (.isub, 1) := by decide +kernel
theorem dX0_runOfInterface_127 : decode cX0_runOfInterface 127 = .ok (.ireturn, 1) := by decide +kernel
theorem dX0_runOfInterface_128 : decode cX0_runOfInterface 128 = .ok (.aload_n 0, 1) := by decide +kernel
theorem dX0_runOfInterface_129 : decode cX0_runOfInterface 129 = .ok (.aload_n 1, 1) := by decide +kernel
theorem dX0_runOfInterface_130 : decode cX0_runOfInterface 130 = .ok (.iconst 3, 1) := by decide +kernel
theorem dX0_runOfInterface_131 : decode cX0_runOfInterface 131 = .ok (.iload_n 3, 1) := by decide +kernel
theorem dX0_runOfInterface_132 : decode cX0_runOfInterface 132 = .ok (.iload 4, 2) := by decide +kernel
theorem dX0_runOfInterface_134 : decode cX0_runOfInterface 134 = .ok (.invokevirtual 61, 3) := by decide +kernel
theorem dX0_runOfInterface_137 : decode cX0_runOfInterface 137 = .ok (.aload_n 0, 1) := by decide +kernel
theorem dX0_runOfInterface_138 : decode cX0_runOfInterface 138 = .ok (.aload_n 1, 1) := by decide +kernel
theorem dX0_runOfInterface_139 : decode cX0_runOfInterface 139 = .ok (.iconst 3, 1) := by decide +kernel
theorem dX0_runOfInterface_140 : decode cX0_runOfInterface 140 = .ok (.iload_n 3, 1) := by decide +kernel
theorem dX0_runOfInterface_141 : decode cX0_runOfInterface 141 = .ok (.iconst 1, 1) := by decide +kernel
theorem dX0_runOfInterface_142 : decode cX0_runOfInterface 142 = .ok (.iadd, 1) := by decide +kernel
theorem dX0_runOfInterface_143 : decode cX0_runOfInterface 143 = .ok (.iload 4, 2) := by decide +kernel
theorem dX0_runOfInterface_145 : decode cX0_runOfInterface 145 = .ok (.invokevirtual 61, 3) := by decide +kernel
theorem dX0_runOfInterface_148 : decode cX0_runOfInterface 148 = .ok (.iadd, 1) := by decide +kernel
theorem dX0_runOfInterface_149 : decode cX0_runOfInterface 149 = .ok (.ireturn, 1) := by decide +kernel
theorem dX0_runOfInterface_150 : decode cX0_runOfInterface 150 = .ok (.aload_n 0, 1) := by decide +kernel
theorem dX0_runOfInterface_151 : decode cX0_runOfInterface 151 = .ok (.aload_n 1, 1) := by decide +kernel
theorem dX0_runOfInterface_152 : decode cX0_runOfInterface 152 = .ok (.iconst 4, 1) := by decide +kernel
theorem dX0_runOfInterface_153 : decode cX0_runOfInterface 153 = .ok (.iload_n 3, 1) := by decide +kernel
theorem dX0_runOfInterface_154 : decode cX0_runOfInterface 154 = .ok (.iload 4, 2) := by decide +kernel
theorem dX0_runOfInterface_156 : decode cX0_runOfInterface 156 = .ok (.invokevirtual 61, 3) := by decide +kernel
theorem dX0_runOfInterface_159 : decode cX0_runOfInterface 159 = .ok (.bipush 85, 2) := by decide +kernel
theorem dX0_runOfInterface_161 : decode cX0_runOfInterface 161 = .ok (.ixor, 1) := by decide +kernel
theorem dX0_runOfInterface_162 : decode cX0_runOfInterface 162 = .ok (.ireturn, 1) := by decide +kernel
theorem dX0_runOfInterface_163 : decode cX0_runOfInterface 163 = .ok (.aload_n 0, 1) := by decide +kernel
theorem dX0_runOfInterface_164 : decode cX0_runOfInterface 164 = .ok (.bipush 13, 2) := by decide +kernel
theorem dX0_runOfInterface_166 : decode cX0_runOfInterface 166 = .ok (.aload_n 1, 1) := by decide +kernel
theorem dX0_runOfInterface_167 : decode cX0_runOfInterface 167 = .ok (.iconst 2, 1) := by decide +kernel
theorem dX0_runOfInterface_168 : decode cX0_runOfInterface 168 = .ok (.iload_n 3, 1) := by decide +kernel
theorem dX0_runOfInterface_169 : decode cX0_runOfInterface 169 = .ok (.iload 4, 2) := by decide +kernel
theorem dX0_runOfInterface_171 : decode cX0_runOfInterface 171 = .ok (.invokevirtual 64, 3) := by decide +kernel
theorem dX0_runOfInterface_174 : decode cX0_runOfInterface 174 = .ok (.aload_n 0, 1) := by decide +kernel
theorem dX0_runOfInterface_175 : decode cX0_runOfInterface 175 = .ok (.bipush 14, 2) := by decide +kernel
theorem dX0_runOfInterface_177 : decode cX0_runOfInterface 177 = .ok (.aload_n 1, 1) := by decide +kernel
theorem dX0_runOfInterface_178 : decode cX0_runOfInterface 178 = .ok (.iconst 2, 1) := by decide +kernel
theorem dX0_runOfInterface_179 : decode cX0_runOfInterface 179 = .ok (.iload_n 3, 1) := by decide +kernel
theorem dX0_runOfInterface_180 : decode cX0_runOfInterface 180 = .ok (.iconst 1, 1) := by decide +kernel
theorem dX0_runOfInterface_181 : decode cX0_runOfInterface 181 = .ok (.iadd, 1) := by decide +kernel
theorem dX0_runOfInterface_182 : decode cX0_runOfInterface 182 = .ok (.iload 4, 2) := by decide +kernel
theorem dX0_runOfInterface_184 : decode cX0_runOfInterface 184 = .ok (.invokevirtual 64, 3) := by decide +kernel
theorem dX0_runOfInterface_187 : decode cX0_runOfInterface 187 = .ok (.iadd, 1) := by decide +kernel
theorem dX0_runOfInterface_188 : decode cX0_runOfInterface 188 = .ok (.ireturn, 1) := by decide +kernel
theorem dX0_runOfInterface_189 : decode cX0_runOfInterface 189 = .ok (.aload_n 0, 1) := by decide +kernel
theorem dX0_runOfInterface_190 : decode cX0_runOfInterface 190 = .ok (.aload_n 1, 1) := by decide +kernel
theorem dX0_runOfInterface_191 : decode cX0_runOfInterface 191 = .ok (.iconst 5, 1) := by decide +kernel
theorem dX0_runOfInterface_192 : decode cX0_runOfInterface 192 = .ok (.iload_n 3, 1) := by decide +kernel
theorem dX0_runOfInterface_193 : decode cX0_runOfInterface 193 = .ok (.iload 4, 2) := by decide +kernel
theorem dX0_runOfInterface_195 : decode cX0_runOfInterface 195 = .ok (.invokevirtual 61, 3) := by decide +kernel
theorem dX0_runOfInterface_198 : decode cX0_runOfInterface 198 = .ok (.iload_n 3, 1) := by decide +kernel
theorem dX0_runOfInterface_199 : decode cX0_runOfInterface 199 = .ok (.iadd, 1) := by decide +kernel
theorem dX0_runOfInterface_200 : decode cX0_runOfInterface 200 = .ok (.ireturn, 1) := by decide +kernel
theorem dX0_runOfInterface_201 : decode cX0_runOfInterface 201 = .ok (.aload_n 0, 1) := by decide +kernel
theorem dX0_runOfInterface_202 : decode cX0_runOfInterface 202 = .ok (.aload_n 1, 1) := by decide +kernel
theorem dX0_runOfInterface_203 : decode cX0_runOfInterface 203 = .ok (.bipush 6, 2) := by decide +kernel
theorem dX0_runOfInterface_205 : decode cX0_runOfInterface 205 = .ok (.iload_n 3, 1) := by decide +kernel
theorem dX0_runOfInterface_206 : decode cX0_runOfInterface 206 = .ok (.iload 4, 2) := by decide +kernel
theorem dX0_runOfInterface_208 : decode cX0_runOfInterface 208 = .ok (.invokevirtual 61, 3) := by decide +kernel
theorem dX0_runOfInterface_211 : decode cX0_runOfInterface 211 = .ok (.iconst 2, 1) := by decide +kernel
theorem dX0_runOfInterface_212 : decode cX0_runOfInterface 212 = .ok (.imul, 1) := by decide +kernel
theorem dX0_runOfInterface_213 : decode cX0_runOfInterface 213 = .ok (.aload_n 0, 1) := by decide +kernel
theorem dX0_runOfInterface_214 : decode cX0_runOfInterface 214 = .ok (.aload_n 1, 1) := by decide +kernel
theorem dX0_runOfInterface_215 : decode cX0_runOfInterface 215 = .ok (.bipush 6, 2) := by decide +kernel
theorem dX0_runOfInterface_217 : decode cX0_runOfInterface 217 = .ok (.iconst 1, 1) := by decide +kernel
theorem dX0_runOfInterface_218 : decode cX0_runOfInterface 218 = .ok (.iload 4, 2) := by decide +kernel
theorem dX0_runOfInterface_220 : decode cX0_runOfInterface 220 = .ok (.invokevirtual 61, 3) := by decide +kernel
theorem dX0_runOfInterface_223 : decode cX0_runOfInterface 223 = .ok (.iadd, 1) := by decide +kernel
theorem dX0_runOfInterface_224 : decode cX0_runOfInterface 224 = .ok (.ireturn, 1) := by decide +kernel
theorem dX0_runOfInterface_225 : decode cX0_runOfInterface 225 = .ok (.aload_n 0, 1) := by decide +kernel
theorem dX0_runOfInterface_226 : decode cX0_runOfInterface 226 = .ok (.bipush 16, 2) := by decide +kernel
theorem dX0_runOfInterface_228 : decode cX0_runOfInterface 228 = .ok (.aload_n 1, 1) := by decide +kernel
theorem dX0_runOfInterface_229 : decode cX0_runOfInterface 229 = .ok (.bipush 7, 2) := by decide +kernel
theorem dX0_runOfInterface_231 : decode cX0_runOfInterface 231 = .ok (.iload_n 3, 1) := by decide +kernel
theorem dX0_runOfInterface_232 : decode cX0_runOfInterface 232 = .ok (.iload 4, 2) := by decide +kernel
theorem dX0_runOfInterface_234 : decode cX0_runOfInterface 234 = .ok (.invokevirtual 64, 3) := by decide +kernel
theorem dX0_runOfInterface_237 : decode cX0_runOfInterface 237 = .ok (.aload_n 0, 1) := by decide +kernel
theorem dX0_runOfInterface_238 : decode cX0_runOfInterface 238 = .ok (.aload_n 1, 1) := by decide +kernel
theorem dX0_runOfInterface_239 : decode cX0_runOfInterface 239 = .ok (.bipush 8, 2) := by decide +kernel
theorem dX0_runOfInterface_241 : decode cX0_runOfInterface 241 = .ok (.iload_n 3, 1) := by decide +kernel
theorem dX0_runOfInterface_242 : decode cX0_runOfInterface 242 = .ok (.iload 4, 2) := by decide +kernel
theorem dX0_runOfInterface_244 : decode cX0_runOfInterface 244 = .ok (.invokevirtual 61, 3) := by decide +kernel
theorem dX0_runOfInterface_247 : decode cX0_runOfInterface 247 = .ok (.isub, 1) := by decide +kernel
theorem dX0_runOfInterface_248 : decode cX0_runOfInterface 248 = .ok (.ireturn, 1) := by decide +kernel
theorem dX0_runOfInterface_249 : decode cX0_runOfInterface 249 = .ok (.aload_n 0, 1) := by decide +kernel
theorem dX0_runOfInterface_250 : decode cX0_runOfInterface 250 = .ok (.aload_n 1, 1) := by decide +kernel
theorem dX0_runOfInterface_251 : decode cX0_runOfInterface 251 = .ok (.bipush 52, 2) := by decide +kernel
theorem dX0_runOfInterface_253 : decode cX0_runOfInterface 253 = .ok (.iload_n 3, 1) := by decide +kernel
theorem dX0_runOfInterface_254 : decode cX0_runOfInterface 254 = .ok (.iload 4, 2) := by decide +kernel
theorem dX0_runOfInterface_256 : decode cX0_runOfInterface 256 = .ok (.invokevirtual 34, 3) := by decide +kernel
theorem dX0_runOfInterface_259 : decode cX0_runOfInterface 259 = .ok (.aload_n 0, 1) := by decide +kernel
theorem dX0_runOfInterface_260 : decode cX0_runOfInterface 260 = .ok (.aload_n 1, 1) := by decide +kernel
theorem dX0_runOfInterface_261 : decode cX0_runOfInterface 261 = .ok (.iconst 5, 1) := by decide +kernel
theorem dX0_runOfInterface_262 : decode cX0_runOfInterface 262 = .ok (.iconst 2, 1) := by decide +kernel
theorem dX0_runOfInterface_263 : decode cX0_runOfInterface 263 = .ok (.iload 4, 2) := by decide +kernel
theorem dX0_runOfInterface_265 : decode cX0_runOfInterface 265 = .ok (.invokevirtual 61, 3) := by decide +kernel
theorem dX0_runOfInterface_268 : decode cX0_runOfInterface 268 = .ok (.iadd, 1) := by decide +kernel
theorem dX0_runOfInterface_269 : decode cX0_runOfInterface 269 = .ok (.ireturn, 1) := by decide +kernel
theorem dX0_runOfInterface_270 : decode cX0_runOfInterface 270 = .ok (.aload_n 0, 1) := by decide +kernel
theorem dX0_runOfInterface_271 : decode cX0_runOfInterface 271 = .ok (.aload_n 1, 1) := by decide +kernel
theorem dX0_runOfInterface_272 : decode cX0_runOfInterface 272 = .ok (.iconst 5, 1) := by decide +kernel
theorem dX0_runOfInterface_273 : decode cX0_runOfInterface 273 = .ok (.iload_n 3, 1) := by decide +kernel
theorem dX0_runOfInterface_274 : decode cX0_runOfInterface 274 = .ok (.iload 4, 2) := by decide +kernel
theorem dX0_runOfInterface_276 : decode cX0_runOfInterface 276 = .ok (.invokevirtual 61, 3) := by decide +kernel
theorem dX0_runOfInterface_279 : decode cX0_runOfInterface 279 = .ok (.iconst 5, 1) := by decide +kernel
theorem dX0_runOfInterface_280 : decode cX0_runOfInterface 280 = .ok (.imul, 1) := by decide +kernel
theorem dX0_runOfInterface_281 : decode cX0_runOfInterface 281 = .ok (.ireturn, 1) := by decide +kernel
theorem dX0_runOfInterface_282 : decode cX0_runOfInterface 282 = .ok (.iconst 0, 1) := by decide +kernel
theorem dX0_runOfInterface_283 : decode cX0_runOfInterface 283 = .ok (.ireturn, 1) := by decide +kernel
theorem dX0_runOfRootOrUnit_0 : decode cX0_runOfRootOrUnit 0 = .ok (.iload_n 2, 1) := by decide +kernel
theorem dX0_runOfRootOrUnit_1 : decode cX0_runOfRootOrUnit 1 = .ok (.tableswitch 169 60 70 #[59, 74, 91, 109, 116, 169, 169, 169, 169, 169, 149], 59) := by decide +kernel
theorem dX0_runOfRootOrUnit_60 : decode cX0_runOfRootOrUnit 60 = .ok (.aload_n 1, 1) := by decide +kernel
theorem dX0_runOfRootOrUnit_61 : decode cX0_runOfRootOrUnit 61 = .ok (.dup, 1) := by decide +kernel
theorem dX0_runOfRootOrUnit_62 : decode cX0_runOfRootOrUnit 62 = .ok (.getfield 68, 3) := by decide +kernel
theorem dX0_runOfRootOrUnit_65 : decode cX0_runOfRootOrUnit 65 = .ok (.iload_n 3, 1) := by decide +kernel
theorem dX0_runOfRootOrUnit_66 : decode cX0_runOfRootOrUnit 66 = .ok (.iadd, 1) := by decide +kernel
theorem dX0_runOfRootOrUnit_67 : decode cX0_runOfRootOrUnit 67 = .ok (.putfield 68, 3) := by decide +kernel
theorem dX0_runOfRootOrUnit_70 : decode cX0_runOfRootOrUnit 70 = .ok (.aload_n 1, 1) := by decide +kernel
theorem dX0_runOfRootOrUnit_71 : decode cX0_runOfRootOrUnit 71 = .ok (.getfield 68, 3) := by decide +kernel
theorem dX0_runOfRootOrUnit_74 : decode cX0_runOfRootOrUnit 74 = .ok (.ireturn, 1) := by decide +kernel
theorem dX0_runOfRootOrUnit_75 : decode cX0_runOfRootOrUnit 75 = .ok (.aload_n 1, 1) := by decide +kernel
theorem dX0_runOfRootOrUnit_76 : decode cX0_runOfRootOrUnit 76 = .ok (.dup, 1) := by decide +kernel
theorem dX0_runOfRootOrUnit_77 : decode cX0_runOfRootOrUnit 77 = .ok (.getfield 68, 3) := by decide +kernel
theorem dX0_runOfRootOrUnit_80 : decode cX0_runOfRootOrUnit 80 = .ok (.iconst 3, 1) := by decide +kernel
theorem dX0_runOfRootOrUnit_81 : decode cX0_runOfRootOrUnit 81 = .ok (.iload_n 3, 1) := by decide +kernel
theorem dX0_runOfRootOrUnit_82 : decode cX0_runOfRootOrUnit 82 = .ok (.imul, 1) := by decide +kernel
theorem dX0_runOfRootOrUnit_83 : decode cX0_runOfRootOrUnit 83 = .ok (.isub, 1) := by decide +kernel
theorem dX0_runOfRootOrUnit_84 : decode cX0_runOfRootOrUnit 84 = .ok (.putfield 68, 3) := by decide +kernel
theorem dX0_runOfRootOrUnit_87 : decode cX0_runOfRootOrUnit 87 = .ok (.aload_n 1, 1) := by decide +kernel
theorem dX0_runOfRootOrUnit_88 : decode cX0_runOfRootOrUnit 88 = .ok (.getfield 68, 3) := by decide +kernel
theorem dX0_runOfRootOrUnit_91 : decode cX0_runOfRootOrUnit 91 = .ok (.ireturn, 1) := by decide +kernel
theorem dX0_runOfRootOrUnit_92 : decode cX0_runOfRootOrUnit 92 = .ok (.aload_n 1, 1) := by decide +kernel
theorem dX0_runOfRootOrUnit_93 : decode cX0_runOfRootOrUnit 93 = .ok (.aload_n 1, 1) := by decide +kernel
theorem dX0_runOfRootOrUnit_94 : decode cX0_runOfRootOrUnit 94 = .ok (.getfield 68, 3) := by decide +kernel
theorem dX0_runOfRootOrUnit_97 : decode cX0_runOfRootOrUnit 97 = .ok (.bipush 31, 2) := by decide +kernel
theorem dX0_runOfRootOrUnit_99 : decode cX0_runOfRootOrUnit 99 = .ok (.imul, 1) := by decide +kernel
theorem dX0_runOfRootOrUnit_100 : decode cX0_runOfRootOrUnit 100 = .ok (.iload_n 3, 1) := by decide +kernel
theorem dX0_runOfRootOrUnit_101 : decode cX0_runOfRootOrUnit 101 = .ok (.iadd, 1) := by decide +kernel
theorem dX0_runOfRootOrUnit_102 : decode cX0_runOfRootOrUnit 102 = .ok (.putfield 68, 3) := by decide +kernel
theorem dX0_runOfRootOrUnit_105 : decode cX0_runOfRootOrUnit 105 = .ok (.aload_n 1, 1) := by decide +kernel
theorem dX0_runOfRootOrUnit_106 : decode cX0_runOfRootOrUnit 106 = .ok (.getfield 68, 3) := by decide +kernel
theorem dX0_runOfRootOrUnit_109 : decode cX0_runOfRootOrUnit 109 = .ok (.ireturn, 1) := by decide +kernel
theorem dX0_runOfRootOrUnit_110 : decode cX0_runOfRootOrUnit 110 = .ok (.aload_n 1, 1) := by decide +kernel
theorem dX0_runOfRootOrUnit_111 : decode cX0_runOfRootOrUnit 111 = .ok (.getfield 68, 3) := by decide +kernel
theorem dX0_runOfRootOrUnit_114 : decode cX0_runOfRootOrUnit 114 = .ok (.iload_n 3, 1) := by decide +kernel
theorem dX0_runOfRootOrUnit_115 : decode cX0_runOfRootOrUnit 115 = .ok (.ixor, 1) := by decide +kernel
theorem dX0_runOfRootOrUnit_116 : decode cX0_runOfRootOrUnit 116 = .ok (.ireturn, 1) := by decide +kernel
theorem dX0_runOfRootOrUnit_117 : decode cX0_runOfRootOrUnit 117 = .ok (.aload_n 0, 1) := by decide +kernel
theorem dX0_runOfRootOrUnit_118 : decode cX0_runOfRootOrUnit 118 = .ok (.aload_n 1, 1) := by decide +kernel
theorem dX0_runOfRootOrUnit_119 : decode cX0_runOfRootOrUnit 119 = .ok (.bipush 9, 2) := by decide +kernel
theorem dX0_runOfRootOrUnit_121 : decode cX0_runOfRootOrUnit 121 = .ok (.iload_n 3, 1) := by decide +kernel
theorem dX0_runOfRootOrUnit_122 : decode cX0_runOfRootOrUnit 122 = .ok (.iload 4, 2) := by decide +kernel
theorem dX0_runOfRootOrUnit_124 : decode cX0_runOfRootOrUnit 124 = .ok (.invokevirtual 61, 3) := by decide +kernel
theorem dX0_runOfRootOrUnit_127 : decode cX0_runOfRootOrUnit 127 = .ok (.aload_n 0, 1) := by decide +kernel
theorem dX0_runOfRootOrUnit_128 : decode cX0_runOfRootOrUnit 128 = .ok (.aload_n 1, 1) := by decide +kernel
theorem dX0_runOfRootOrUnit_129 : decode cX0_runOfRootOrUnit 129 = .ok (.bipush 10, 2) := by decide +kernel
theorem dX0_runOfRootOrUnit_131 : decode cX0_runOfRootOrUnit 131 = .ok (.iconst 1, 1) := by decide +kernel
theorem dX0_runOfRootOrUnit_132 : decode cX0_runOfRootOrUnit 132 = .ok (.iload 4, 2) := by decide +kernel
theorem dX0_runOfRootOrUnit_134 : decode cX0_runOfRootOrUnit 134 = .ok (.invokevirtual 61, 3) := by decide +kernel
theorem dX0_runOfRootOrUnit_137 : decode cX0_runOfRootOrUnit 137 = .ok (.iadd, 1) := by decide +kernel
theorem dX0_runOfRootOrUnit_138 : decode cX0_runOfRootOrUnit 138 = .ok (.aload_n 0, 1) := by decide +kernel
theorem dX0_runOfRootOrUnit_139 : decode cX0_runOfRootOrUnit 139 = .ok (.aload_n 1, 1) := by decide +kernel
theorem dX0_runOfRootOrUnit_140 : decode cX0_runOfRootOrUnit 140 = .ok (.bipush 63, 2) := by decide +kernel
theorem dX0_runOfRootOrUnit_142 : decode cX0_runOfRootOrUnit 142 = .ok (.iload_n 3, 1) := by decide +kernel
theorem dX0_runOfRootOrUnit_143 : decode cX0_runOfRootOrUnit 143 = .ok (.iload 4, 2) := by decide +kernel
theorem dX0_runOfRootOrUnit_145 : decode cX0_runOfRootOrUnit 145 = .ok (.invokevirtual 34, 3) := by decide +kernel
theorem dX0_runOfRootOrUnit_148 : decode cX0_runOfRootOrUnit 148 = .ok (.iadd, 1) := by decide +kernel
theorem dX0_runOfRootOrUnit_149 : decode cX0_runOfRootOrUnit 149 = .ok (.ireturn, 1) := by decide +kernel
theorem dX0_runOfRootOrUnit_150 : decode cX0_runOfRootOrUnit 150 = .ok (.aload_n 1, 1) := by decide +kernel
theorem dX0_runOfRootOrUnit_151 : decode cX0_runOfRootOrUnit 151 = .ok (.dup, 1) := by decide +kernel
theorem dX0_runOfRootOrUnit_152 : decode cX0_runOfRootOrUnit 152 = .ok (.getfield 71, 3) := by decide +kernel
theorem dX0_runOfRootOrUnit_155 : decode cX0_runOfRootOrUnit 155 = .ok (.iconst 1, 1) := by decide +kernel
theorem dX0_runOfRootOrUnit_156 : decode cX0_runOfRootOrUnit 156 = .ok (.iadd, 1) := by decide +kernel
theorem dX0_runOfRootOrUnit_157 : decode cX0_runOfRootOrUnit 157 = .ok (.putfield 71, 3) := by decide +kernel
theorem dX0_runOfRootOrUnit_160 : decode cX0_runOfRootOrUnit 160 = .ok (.aload_n 1, 1) := by decide +kernel
theorem dX0_runOfRootOrUnit_161 : decode cX0_runOfRootOrUnit 161 = .ok (.getfield 71, 3) := by decide +kernel
theorem dX0_runOfRootOrUnit_164 : decode cX0_runOfRootOrUnit 164 = .ok (.bipush 7, 2) := by decide +kernel
theorem dX0_runOfRootOrUnit_166 : decode cX0_runOfRootOrUnit 166 = .ok (.imul, 1) := by decide +kernel
theorem dX0_runOfRootOrUnit_167 : decode cX0_runOfRootOrUnit 167 = .ok (.iload_n 3, 1) := by decide +kernel
theorem dX0_runOfRootOrUnit_168 : decode cX0_runOfRootOrUnit 168 = .ok (.iadd, 1) := by decide +kernel
theorem dX0_runOfRootOrUnit_169 : decode cX0_runOfRootOrUnit 169 = .ok (.ireturn, 1) := by decide +kernel
theorem dX0_runOfRootOrUnit_170 : decode cX0_runOfRootOrUnit 170 = .ok (.iconst 0, 1) := by decide +kernel
theorem dX0_runOfRootOrUnit_171 : decode cX0_runOfRootOrUnit 171 = .ok (.ireturn, 1) := by decide +kernel
theorem dX0_runOfPumpToFine_0 : decode cX0_runOfPumpToFine 0 = .ok (.iload_n 2, 1) := by decide +kernel
theorem dX0_runOfPumpToFine_1 : decode cX0_runOfPumpToFine 1 = .ok (.lookupswitch 189 #[(100, 75), (101, 82), (110, 98), (111, 123), (112, 137), (120, 144), (130, 161), (131, 174)], 75) := by decide +kernel
theorem dX0_runOfPumpToFine_76 : decode cX0_runOfPumpToFine 76 = .ok (.aload_n 1, 1) := by decide +kernel
theorem dX0_runOfPumpToFine_77 : decode cX0_runOfPumpToFine 77 = .ok (.getfield 68, 3) := by decide +kernel
theorem dX0_runOfPumpToFine_80 : decode cX0_runOfPumpToFine 80 = .ok (.iload_n 3, 1) := by decide +kernel
theorem dX0_runOfPumpToFine_81 : decode cX0_runOfPumpToFine 81 = .ok (.iadd, 1) := by decide +kernel
theorem dX0_runOfPumpToFine_82 : decode cX0_runOfPumpToFine 82 = .ok (.ireturn, 1) := by decide +kernel
theorem dX0_runOfPumpToFine_83 : decode cX0_runOfPumpToFine 83 = .ok (.aload_n 0, 1) := by decide +kernel
theorem dX0_runOfPumpToFine_84 : decode cX0_runOfPumpToFine 84 = .ok (.iconst 0, 1) := by decide +kernel
theorem dX0_runOfPumpToFine_85 : decode cX0_runOfPumpToFine 85 = .ok (.aload_n 1, 1) := by decide +kernel
theorem dX0_runOfPumpToFine_86 : decode cX0_runOfPumpToFine 86 = .ok (.bipush 9, 2) := by decide +kernel
theorem dX0_runOfPumpToFine_88 : decode cX0_runOfPumpToFine 88 = .ok (.iload_n 3, 1) := by decide +kernel
theorem dX0_runOfPumpToFine_89 : decode cX0_runOfPumpToFine 89 = .ok (.iconst 2, 1) := by decide +kernel
theorem dX0_runOfPumpToFine_90 : decode cX0_runOfPumpToFine 90 = .ok (.iadd, 1) := by decide +kernel
theorem dX0_runOfPumpToFine_91 : decode cX0_runOfPumpToFine 91 = .ok (.iload 4, 2) := by decide +kernel
theorem dX0_runOfPumpToFine_93 : decode cX0_runOfPumpToFine 93 = .ok (.invokevirtual 74, 3) := by decide +kernel
theorem dX0_runOfPumpToFine_96 : decode cX0_runOfPumpToFine 96 = .ok (.iconst 1, 1) := by decide +kernel
theorem dX0_runOfPumpToFine_97 : decode cX0_runOfPumpToFine 97 = .ok (.iadd, 1) := by decide +kernel
theorem dX0_runOfPumpToFine_98 : decode cX0_runOfPumpToFine 98 = .ok (.ireturn, 1) := by decide +kernel
theorem dX0_runOfPumpToFine_99 : decode cX0_runOfPumpToFine 99 = .ok (.aload_n 0, 1) := by decide +kernel
theorem dX0_runOfPumpToFine_100 : decode cX0_runOfPumpToFine 100 = .ok (.iconst 1, 1) := by decide +kernel
theorem dX0_runOfPumpToFine_101 : decode cX0_runOfPumpToFine 101 = .ok (.aload_n 1, 1) := by decide +kernel
theorem dX0_runOfPumpToFine_102 : decode cX0_runOfPumpToFine 102 = .ok (.bipush 10, 2) := by decide +kernel
theorem dX0_runOfPumpToFine_104 : decode cX0_runOfPumpToFine 104 = .ok (.iload_n 3, 1) := by decide +kernel
theorem dX0_runOfPumpToFine_105 : decode cX0_runOfPumpToFine 105 = .ok (.iload 4, 2) := by decide +kernel
theorem dX0_runOfPumpToFine_107 : decode cX0_runOfPumpToFine 107 = .ok (.invokevirtual 74, 3) := by decide +kernel
theorem dX0_runOfPumpToFine_110 : decode cX0_runOfPumpToFine 110 = .ok (.iconst 2, 1) := by decide +kernel
theorem dX0_runOfPumpToFine_111 : decode cX0_runOfPumpToFine 111 = .ok (.imul, 1) := by decide +kernel
theorem dX0_runOfPumpToFine_112 : decode cX0_runOfPumpToFine 112 = .ok (.aload_n 0, 1) := by decide +kernel
theorem dX0_runOfPumpToFine_113 : decode cX0_runOfPumpToFine 113 = .ok (.aload_n 1, 1) := by decide +kernel
theorem dX0_runOfPumpToFine_114 : decode cX0_runOfPumpToFine 114 = .ok (.bipush 112, 2) := by decide +kernel
theorem dX0_runOfPumpToFine_116 : decode cX0_runOfPumpToFine 116 = .ok (.iload_n 3, 1) := by decide +kernel
theorem dX0_runOfPumpToFine_117 : decode cX0_runOfPumpToFine 117 = .ok (.iload 4, 2) := by decide +kernel
theorem dX0_runOfPumpToFine_119 : decode cX0_runOfPumpToFine 119 = .ok (.invokevirtual 34, 3) := by decide +kernel
theorem dX0_runOfPumpToFine_122 : decode cX0_runOfPumpToFine 122 = .ok (.iadd, 1) := by decide +kernel
theorem dX0_runOfPumpToFine_123 : decode cX0_runOfPumpToFine 123 = .ok (.ireturn, 1) := by decide +kernel
theorem dX0_runOfPumpToFine_124 : decode cX0_runOfPumpToFine 124 = .ok (.aload_n 0, 1) := by decide +kernel
theorem dX0_runOfPumpToFine_125 : decode cX0_runOfPumpToFine 125 = .ok (.bipush 14, 2) := by decide +kernel
theorem dX0_runOfPumpToFine_127 : decode cX0_runOfPumpToFine 127 = .ok (.aload_n 1, 1) := by decide +kernel
theorem dX0_runOfPumpToFine_128 : decode cX0_runOfPumpToFine 128 = .ok (.iconst 4, 1) := by decide +kernel
theorem dX0_runOfPumpToFine_129 : decode cX0_runOfPumpToFine 129 = .ok (.iload_n 3, 1) := by decide +kernel
theorem dX0_runOfPumpToFine_130 : decode cX0_runOfPumpToFine 130 = .ok (.iload 4, 2) := by decide +kernel
theorem dX0_runOfPumpToFine_132 : decode cX0_runOfPumpToFine 132 = .ok (.invokevirtual 64, 3) := by decide +kernel
theorem dX0_runOfPumpToFine_135 : decode cX0_runOfPumpToFine 135 = .ok (.iconst 1, 1) := by decide +kernel
theorem dX0_runOfPumpToFine_136 : decode cX0_runOfPumpToFine 136 = .ok (.isub, 1) := by decide +kernel
theorem dX0_runOfPumpToFine_137 : decode cX0_runOfPumpToFine 137 = .ok (.ireturn, 1) := by decide +kernel
theorem dX0_runOfPumpToFine_138 : decode cX0_runOfPumpToFine 138 = .ok (.aload_n 1, 1) := by decide +kernel
theorem dX0_runOfPumpToFine_139 : decode cX0_runOfPumpToFine 139 = .ok (.getfield 71, 3) := by decide +kernel
theorem dX0_runOfPumpToFine_142 : decode cX0_runOfPumpToFine 142 = .ok (.iload_n 3, 1) := by decide +kernel
theorem dX0_runOfPumpToFine_143 : decode cX0_runOfPumpToFine 143 = .ok (.isub, 1) := by decide +kernel
theorem dX0_runOfPumpToFine_144 : decode cX0_runOfPumpToFine 144 = .ok (.ireturn, 1) := by decide +kernel
theorem dX0_runOfPumpToFine_145 : decode cX0_runOfPumpToFine 145 = .ok (.aload_n 0, 1) := by decide +kernel
theorem dX0_runOfPumpToFine_146 : decode cX0_runOfPumpToFine 146 = .ok (.aload_n 1, 1) := by decide +kernel
theorem dX0_runOfPumpToFine_147 : decode cX0_runOfPumpToFine 147 = .ok (.iconst 5, 1) := by decide +kernel
theorem dX0_runOfPumpToFine_148 : decode cX0_runOfPumpToFine 148 = .ok (.iload_n 3, 1) := by decide +kernel
theorem dX0_runOfPumpToFine_149 : decode cX0_runOfPumpToFine 149 = .ok (.iload 4, 2) := by decide +kernel
theorem dX0_runOfPumpToFine_151 : decode cX0_runOfPumpToFine 151 = .ok (.invokevirtual 61, 3) := by decide +kernel
theorem dX0_runOfPumpToFine_154 : decode cX0_runOfPumpToFine 154 = .ok (.iconst 3, 1) := by decide +kernel
theorem dX0_runOfPumpToFine_155 : decode cX0_runOfPumpToFine 155 = .ok (.imul, 1) := by decide +kernel
theorem dX0_runOfPumpToFine_156 : decode cX0_runOfPumpToFine 156 = .ok (.aload_n 1, 1) := by decide +kernel
theorem dX0_runOfPumpToFine_157 : decode cX0_runOfPumpToFine 157 = .ok (.getfield 68, 3) := by decide +kernel
theorem dX0_runOfPumpToFine_160 : decode cX0_runOfPumpToFine 160 = .ok (.iadd, 1) := by decide +kernel
theorem dX0_runOfPumpToFine_161 : decode cX0_runOfPumpToFine 161 = .ok (.ireturn, 1) := by decide +kernel
theorem dX0_runOfPumpToFine_162 : decode cX0_runOfPumpToFine 162 = .ok (.aload_n 0, 1) := by decide +kernel
theorem dX0_runOfPumpToFine_163 : decode cX0_runOfPumpToFine 163 = .ok (.iconst 3, 1) := by decide +kernel
theorem dX0_runOfPumpToFine_164 : decode cX0_runOfPumpToFine 164 = .ok (.aload_n 1, 1) := by decide +kernel
theorem dX0_runOfPumpToFine_165 : decode cX0_runOfPumpToFine 165 = .ok (.iconst 0, 1) := by decide +kernel
theorem dX0_runOfPumpToFine_166 : decode cX0_runOfPumpToFine 166 = .ok (.iload_n 3, 1) := by decide +kernel
theorem dX0_runOfPumpToFine_167 : decode cX0_runOfPumpToFine 167 = .ok (.iload 4, 2) := by decide +kernel
theorem dX0_runOfPumpToFine_169 : decode cX0_runOfPumpToFine 169 = .ok (.invokevirtual 74, 3) := by decide +kernel
theorem dX0_runOfPumpToFine_172 : decode cX0_runOfPumpToFine 172 = .ok (.iconst 3, 1) := by decide +kernel
theorem dX0_runOfPumpToFine_173 : decode cX0_runOfPumpToFine 173 = .ok (.imul, 1) := by decide +kernel
theorem dX0_runOfPumpToFine_174 : decode cX0_runOfPumpToFine 174 = .ok (.ireturn, 1) := by decide +kernel
theorem dX0_runOfPumpToFine_175 : decode cX0_runOfPumpToFine 175 = .ok (.aload_n 0, 1) := by decide +kernel
theorem dX0_runOfPumpToFine_176 : decode cX0_runOfPumpToFine 176 = .ok (.iconst 3, 1) := by decide +kernel
theorem dX0_runOfPumpToFine_177 : decode cX0_runOfPumpToFine 177 = .ok (.aload_n 1, 1) := by decide +kernel
theorem dX0_runOfPumpToFine_178 : decode cX0_runOfPumpToFine 178 = .ok (.iconst 1, 1) := by decide +kernel
theorem dX0_runOfPumpToFine_179 : decode cX0_runOfPumpToFine 179 = .ok (.iload_n 3, 1) := by decide +kernel
theorem dX0_runOfPumpToFine_180 : decode cX0_runOfPumpToFine 180 = .ok (.iconst 1, 1) := by decide +kernel
theorem dX0_runOfPumpToFine_181 : decode cX0_runOfPumpToFine 181 = .ok (.iadd, 1) := by decide +kernel
theorem dX0_runOfPumpToFine_182 : decode cX0_runOfPumpToFine 182 = .ok (.iload 4, 2) := by decide +kernel
theorem dX0_runOfPumpToFine_184 : decode cX0_runOfPumpToFine 184 = .ok (.invokevirtual 74, 3) := by decide +kernel
theorem dX0_runOfPumpToFine_187 : decode cX0_runOfPumpToFine 187 = .ok (.iconst 5, 1) := by decide +kernel
theorem dX0_runOfPumpToFine_188 : decode cX0_runOfPumpToFine 188 = .ok (.iadd, 1) := by decide +kernel
theorem dX0_runOfPumpToFine_189 : decode cX0_runOfPumpToFine 189 = .ok (.ireturn, 1) := by decide +kernel
theorem dX0_runOfPumpToFine_190 : decode cX0_runOfPumpToFine 190 = .ok (.iconst 0, 1) := by decide +kernel
theorem dX0_runOfPumpToFine_191 : decode cX0_runOfPumpToFine 191 = .ok (.ireturn, 1) := by decide +kernel
theorem dX0_runOfRelayToMute_0 : decode cX0_runOfRelayToMute 0 = .ok (.iload_n 2, 1) := by decide +kernel
theorem dX0_runOfRelayToMute_1 : decode cX0_runOfRelayToMute 1 = .ok (.tableswitch 257 140 163 #[111, 118, 141, 257, 257, 257, 257, 257, 257, 257, 157, 172, 194, 257, 257, 257, 257, 257, 257, 257, 208, 210, 227, 232], 111) := by decide +kernel
theorem dX0_runOfRelayToMute_112 : decode cX0_runOfRelayToMute 112 = .ok (.aload_n 1, 1) := by decide +kernel
theorem dX0_runOfRelayToMute_113 : decode cX0_runOfRelayToMute 113 = .ok (.getfield 68, 3) := by decide +kernel
theorem dX0_runOfRelayToMute_116 : decode cX0_runOfRelayToMute 116 = .ok (.iload_n 3, 1) := by decide +kernel
theorem dX0_runOfRelayToMute_117 : decode cX0_runOfRelayToMute 117 = .ok (.isub, 1) := by decide +kernel
theorem dX0_runOfRelayToMute_118 : decode cX0_runOfRelayToMute 118 = .ok (.ireturn, 1) := by decide +kernel
theorem dX0_runOfRelayToMute_119 : decode cX0_runOfRelayToMute 119 = .ok (.aload_n 0, 1) := by decide +kernel
theorem dX0_runOfRelayToMute_120 : decode cX0_runOfRelayToMute 120 = .ok (.iconst 4, 1) := by decide +kernel
theorem dX0_runOfRelayToMute_121 : decode cX0_runOfRelayToMute 121 = .ok (.aload_n 1, 1) := by decide +kernel
theorem dX0_runOfRelayToMute_122 : decode cX0_runOfRelayToMute 122 = .ok (.iconst 2, 1) := by decide +kernel
theorem dX0_runOfRelayToMute_123 : decode cX0_runOfRelayToMute 123 = .ok (.iload_n 3, 1) := by decide +kernel
theorem dX0_runOfRelayToMute_124 : decode cX0_runOfRelayToMute 124 = .ok (.iload 4, 2) := by decide +kernel
theorem dX0_runOfRelayToMute_126 : decode cX0_runOfRelayToMute 126 = .ok (.invokevirtual 74, 3) := by decide +kernel
theorem dX0_runOfRelayToMute_129 : decode cX0_runOfRelayToMute 129 = .ok (.aload_n 0, 1) := by decide +kernel
theorem dX0_runOfRelayToMute_130 : decode cX0_runOfRelayToMute 130 = .ok (.bipush 13, 2) := by decide +kernel
theorem dX0_runOfRelayToMute_132 : decode cX0_runOfRelayToMute 132 = .ok (.aload_n 1, 1) := by decide +kernel
theorem dX0_runOfRelayToMute_133 : decode cX0_runOfRelayToMute 133 = .ok (.iconst 2, 1) := by decide +kernel
theorem dX0_runOfRelayToMute_134 : decode cX0_runOfRelayToMute 134 = .ok (.iconst 1, 1) := by decide +kernel
theorem dX0_runOfRelayToMute_135 : decode cX0_runOfRelayToMute 135 = .ok (.iload 4, 2) := by decide +kernel
theorem dX0_runOfRelayToMute_137 : decode cX0_runOfRelayToMute 137 = .ok (.invokevirtual 64, 3) := by decide +kernel
theorem dX0_runOfRelayToMute_140 : decode cX0_runOfRelayToMute 140 = .ok (.isub, 1) := by decide +kernel
theorem dX0_runOfRelayToMute_141 : decode cX0_runOfRelayToMute 141 = .ok (.ireturn, 1) := by decide +kernel
theorem dX0_runOfRelayToMute_142 : decode cX0_runOfRelayToMute 142 = .ok (.aload_n 0, 1) := by decide +kernel
theorem dX0_runOfRelayToMute_143 : decode cX0_runOfRelayToMute 143 = .ok (.iconst 4, 1) := by decide +kernel
theorem dX0_runOfRelayToMute_144 : decode cX0_runOfRelayToMute 144 = .ok (.aload_n 1, 1) := by decide +kernel
theorem dX0_runOfRelayToMute_145 : decode cX0_runOfRelayToMute 145 = .ok (.bipush 10, 2) := by decide +kernel
theorem dX0_runOfRelayToMute_147 : decode cX0_runOfRelayToMute 147 = .ok (.iload_n 3, 1) := by decide +kernel
theorem dX0_runOfRelayToMute_148 : decode cX0_runOfRelayToMute 148 = .ok (.iconst 1, 1) := by decide +kernel
theorem dX0_runOfRelayToMute_149 : decode cX0_runOfRelayToMute 149 = .ok (.iadd, 1) := by decide +kernel
theorem dX0_runOfRelayToMute_150 : decode cX0_runOfRelayToMute 150 = .ok (.iload 4, 2) := by decide +kernel
theorem dX0_runOfRelayToMute_152 : decode cX0_runOfRelayToMute 152 = .ok (.invokevirtual 74, 3) := by decide +kernel
theorem dX0_runOfRelayToMute_155 : decode cX0_runOfRelayToMute 155 = .ok (.iconst 4, 1) := by decide +kernel
theorem dX0_runOfRelayToMute_156 : decode cX0_runOfRelayToMute 156 = .ok (.iadd, 1) := by decide +kernel
theorem dX0_runOfRelayToMute_157 : decode cX0_runOfRelayToMute 157 = .ok (.ireturn, 1) := by decide +kernel
theorem dX0_runOfRelayToMute_158 : decode cX0_runOfRelayToMute 158 = .ok (.aload_n 0, 1) := by decide +kernel
theorem dX0_runOfRelayToMute_159 : decode cX0_runOfRelayToMute 159 = .ok (.aload_n 1, 1) := by decide +kernel
theorem dX0_runOfRelayToMute_160 : decode cX0_runOfRelayToMute 160 = .ok (.iconst 5, 1) := by decide +kernel
theorem dX0_runOfRelayToMute_161 : decode cX0_runOfRelayToMute 161 = .ok (.iload_n 3, 1) := by decide +kernel
theorem dX0_runOfRelayToMute_162 : decode cX0_runOfRelayToMute 162 = .ok (.iload 4, 2) := by decide +kernel
theorem dX0_runOfRelayToMute_164 : decode cX0_runOfRelayToMute 164 = .ok (.invokevirtual 61, 3) := by decide +kernel
theorem dX0_runOfRelayToMute_167 : decode cX0_runOfRelayToMute 167 = .ok (.aload_n 1, 1) := by decide +kernel
theorem dX0_runOfRelayToMute_168 : decode cX0_runOfRelayToMute 168 = .ok (.getfield 68, 3) := by decide +kernel
theorem dX0_runOfRelayToMute_171 : decode cX0_runOfRelayToMute 171 = .ok (.iadd, 1) := by decide +kernel
theorem dX0_runOfRelayToMute_172 : decode cX0_runOfRelayToMute 172 = .ok (.ireturn, 1) := by decide +kernel
theorem dX0_runOfRelayToMute_173 : decode cX0_runOfRelayToMute 173 = .ok (.aload_n 0, 1) := by decide +kernel
theorem dX0_runOfRelayToMute_174 : decode cX0_runOfRelayToMute 174 = .ok (.iconst 5, 1) := by decide +kernel
theorem dX0_runOfRelayToMute_175 : decode cX0_runOfRelayToMute 175 = .ok (.aload_n 1, 1) := by decide +kernel
theorem dX0_runOfRelayToMute_176 : decode cX0_runOfRelayToMute 176 = .ok (.bipush 9, 2) := by decide +kernel
theorem dX0_runOfRelayToMute_178 : decode cX0_runOfRelayToMute 178 = .ok (.iload_n 3, 1) := by decide +kernel
theorem dX0_runOfRelayToMute_179 : decode cX0_runOfRelayToMute 179 = .ok (.iload 4, 2) := by decide +kernel
theorem dX0_runOfRelayToMute_181 : decode cX0_runOfRelayToMute 181 = .ok (.invokevirtual 74, 3) := by decide +kernel
theorem dX0_runOfRelayToMute_184 : decode cX0_runOfRelayToMute 184 = .ok (.aload_n 0, 1) := by decide +kernel
theorem dX0_runOfRelayToMute_185 : decode cX0_runOfRelayToMute 185 = .ok (.aload_n 1, 1) := by decide +kernel
theorem dX0_runOfRelayToMute_186 : decode cX0_runOfRelayToMute 186 = .ok (.iconst 2, 1) := by decide +kernel
theorem dX0_runOfRelayToMute_187 : decode cX0_runOfRelayToMute 187 = .ok (.iconst 0, 1) := by decide +kernel
theorem dX0_runOfRelayToMute_188 : decode cX0_runOfRelayToMute 188 = .ok (.iload 4, 2) := by decide +kernel
theorem dX0_runOfRelayToMute_190 : decode cX0_runOfRelayToMute 190 = .ok (.invokevirtual 61, 3) := by decide +kernel
theorem dX0_runOfRelayToMute_193 : decode cX0_runOfRelayToMute 193 = .ok (.ixor, 1) := by decide +kernel
theorem dX0_runOfRelayToMute_194 : decode cX0_runOfRelayToMute 194 = .ok (.ireturn, 1) := by decide +kernel
theorem dX0_runOfRelayToMute_195 : decode cX0_runOfRelayToMute 195 = .ok (.aload_n 0, 1) := by decide +kernel
theorem dX0_runOfRelayToMute_196 : decode cX0_runOfRelayToMute 196 = .ok (.bipush 15, 2) := by decide +kernel
theorem dX0_runOfRelayToMute_198 : decode cX0_runOfRelayToMute 198 = .ok (.aload_n 1, 1) := by decide +kernel
theorem dX0_runOfRelayToMute_199 : decode cX0_runOfRelayToMute 199 = .ok (.iconst 4, 1) := by decide +kernel
theorem dX0_runOfRelayToMute_200 : decode cX0_runOfRelayToMute 200 = .ok (.iload_n 3, 1) := by decide +kernel
theorem dX0_runOfRelayToMute_201 : decode cX0_runOfRelayToMute 201 = .ok (.iload 4, 2) := by decide +kernel
theorem dX0_runOfRelayToMute_203 : decode cX0_runOfRelayToMute 203 = .ok (.invokevirtual 64, 3) := by decide +kernel
theorem dX0_runOfRelayToMute_206 : decode cX0_runOfRelayToMute 206 = .ok (.iconst 1, 1) := by decide +kernel
theorem dX0_runOfRelayToMute_207 : decode cX0_runOfRelayToMute 207 = .ok (.iadd, 1) := by decide +kernel
theorem dX0_runOfRelayToMute_208 : decode cX0_runOfRelayToMute 208 = .ok (.ireturn, 1) := by decide +kernel
theorem dX0_runOfRelayToMute_209 : decode cX0_runOfRelayToMute 209 = .ok (.iload_n 3, 1) := by decide +kernel
theorem dX0_runOfRelayToMute_210 : decode cX0_runOfRelayToMute 210 = .ok (.ireturn, 1) := by decide +kernel
theorem dX0_runOfRelayToMute_211 : decode cX0_runOfRelayToMute 211 = .ok (.aload_n 0, 1) := by decide +kernel
theorem dX0_runOfRelayToMute_212 : decode cX0_runOfRelayToMute 212 = .ok (.bipush 17, 2) := by decide +kernel
theorem dX0_runOfRelayToMute_214 : decode cX0_runOfRelayToMute 214 = .ok (.aload_n 1, 1) := by decide +kernel
theorem dX0_runOfRelayToMute_215 : decode cX0_runOfRelayToMute 215 = .ok (.bipush 8, 2) := by decide +kernel
theorem dX0_runOfRelayToMute_217 : decode cX0_runOfRelayToMute 217 = .ok (.iload_n 3, 1) := by decide +kernel
theorem dX0_runOfRelayToMute_218 : decode cX0_runOfRelayToMute 218 = .ok (.iload 4, 2) := by decide +kernel
theorem dX0_runOfRelayToMute_220 : decode cX0_runOfRelayToMute 220 = .ok (.invokevirtual 64, 3) := by decide +kernel
theorem dX0_runOfRelayToMute_223 : decode cX0_runOfRelayToMute 223 = .ok (.sipush 255, 3) := by decide +kernel
theorem dX0_runOfRelayToMute_226 : decode cX0_runOfRelayToMute 226 = .ok (.iand, 1) := by decide +kernel
theorem dX0_runOfRelayToMute_227 : decode cX0_runOfRelayToMute 227 = .ok (.ireturn, 1) := by decide +kernel
theorem dX0_runOfRelayToMute_228 : decode cX0_runOfRelayToMute 228 = .ok (.iload_n 3, 1) := by decide +kernel
theorem dX0_runOfRelayToMute_229 : decode cX0_runOfRelayToMute 229 = .ok (.bipush 99, 2) := by decide +kernel
theorem dX0_runOfRelayToMute_231 : decode cX0_runOfRelayToMute 231 = .ok (.iadd, 1) := by decide +kernel
theorem dX0_runOfRelayToMute_232 : decode cX0_runOfRelayToMute 232 = .ok (.ireturn, 1) := by decide +kernel
theorem dX0_runOfRelayToMute_233 : decode cX0_runOfRelayToMute 233 = .ok (.aload_n 0, 1) := by decide +kernel
theorem dX0_runOfRelayToMute_234 : decode cX0_runOfRelayToMute 234 = .ok (.aload_n 1, 1) := by decide +kernel
theorem dX0_runOfRelayToMute_235 : decode cX0_runOfRelayToMute 235 = .ok (.sipush 162, 3) := by decide +kernel
theorem dX0_runOfRelayToMute_238 : decode cX0_runOfRelayToMute 238 = .ok (.iload_n 3, 1) := by decide +kernel
theorem dX0_runOfRelayToMute_239 : decode cX0_runOfRelayToMute 239 = .ok (.iload 4, 2) := by decide +kernel
theorem dX0_runOfRelayToMute_241 : decode cX0_runOfRelayToMute 241 = .ok (.invokevirtual 34, 3) := by decide +kernel
theorem dX0_runOfRelayToMute_244 : decode cX0_runOfRelayToMute 244 = .ok (.aload_n 0, 1) := by decide +kernel
theorem dX0_runOfRelayToMute_245 : decode cX0_runOfRelayToMute 245 = .ok (.bipush 6, 2) := by decide +kernel
theorem dX0_runOfRelayToMute_247 : decode cX0_runOfRelayToMute 247 = .ok (.aload_n 1, 1) := by decide +kernel
theorem dX0_runOfRelayToMute_248 : decode cX0_runOfRelayToMute 248 = .ok (.bipush 9, 2) := by decide +kernel
theorem dX0_runOfRelayToMute_250 : decode cX0_runOfRelayToMute 250 = .ok (.iconst 1, 1) := by decide +kernel
theorem dX0_runOfRelayToMute_251 : decode cX0_runOfRelayToMute 251 = .ok (.iload 4, 2) := by decide +kernel
theorem dX0_runOfRelayToMute_253 : decode cX0_runOfRelayToMute 253 = .ok (.invokevirtual 74, 3) := by decide +kernel
theorem dX0_runOfRelayToMute_256 : decode cX0_runOfRelayToMute 256 = .ok (.iadd, 1) := by decide +kernel
theorem dX0_runOfRelayToMute_257 : decode cX0_runOfRelayToMute 257 = .ok (.ireturn, 1) := by decide +kernel
theorem dX0_runOfRelayToMute_258 : decode cX0_runOfRelayToMute 258 = .ok (.iconst 0, 1) := by decide +kernel
theorem dX0_runOfRelayToMute_259 : decode cX0_runOfRelayToMute 259 = .ok (.ireturn, 1) := by decide +kernel
theorem dX0_runOfBoostToLedger_0 : decode cX0_runOfBoostToLedger 0 = .ok (.iload_n 2, 1) := by decide +kernel
theorem dX0_runOfBoostToLedger_1 : decode cX0_runOfBoostToLedger 1 = .ok (.tableswitch 235 180 204 #[115, 130, 235, 235, 235, 235, 235, 235, 235, 235, 152, 235, 235, 235, 235, 235, 235, 235, 235, 235, 165, 172, 197, 235, 221], 115) := by decide +kernel
theorem dX0_runOfBoostToLedger_116 : decode cX0_runOfBoostToLedger 116 = .ok (.aload_n 0, 1) := by decide +kernel
theorem dX0_runOfBoostToLedger_117 : decode cX0_runOfBoostToLedger 117 = .ok (.bipush 8, 2) := by decide +kernel
theorem dX0_runOfBoostToLedger_119 : decode cX0_runOfBoostToLedger 119 = .ok (.aload_n 1, 1) := by decide +kernel
theorem dX0_runOfBoostToLedger_120 : decode cX0_runOfBoostToLedger 120 = .ok (.bipush 9, 2) := by decide +kernel
theorem dX0_runOfBoostToLedger_122 : decode cX0_runOfBoostToLedger 122 = .ok (.iload_n 3, 1) := by decide +kernel
theorem dX0_runOfBoostToLedger_123 : decode cX0_runOfBoostToLedger 123 = .ok (.iload 4, 2) := by decide +kernel
theorem dX0_runOfBoostToLedger_125 : decode cX0_runOfBoostToLedger 125 = .ok (.invokevirtual 74, 3) := by decide +kernel
theorem dX0_runOfBoostToLedger_128 : decode cX0_runOfBoostToLedger 128 = .ok (.iconst 1, 1) := by decide +kernel
theorem dX0_runOfBoostToLedger_129 : decode cX0_runOfBoostToLedger 129 = .ok (.isub, 1) := by decide +kernel
theorem dX0_runOfBoostToLedger_130 : decode cX0_runOfBoostToLedger 130 = .ok (.ireturn, 1) := by decide +kernel
theorem dX0_runOfBoostToLedger_131 : decode cX0_runOfBoostToLedger 131 = .ok (.aload_n 0, 1) := by decide +kernel
theorem dX0_runOfBoostToLedger_132 : decode cX0_runOfBoostToLedger 132 = .ok (.bipush 8, 2) := by decide +kernel
theorem dX0_runOfBoostToLedger_134 : decode cX0_runOfBoostToLedger 134 = .ok (.aload_n 1, 1) := by decide +kernel
theorem dX0_runOfBoostToLedger_135 : decode cX0_runOfBoostToLedger 135 = .ok (.iconst 2, 1) := by decide +kernel
theorem dX0_runOfBoostToLedger_136 : decode cX0_runOfBoostToLedger 136 = .ok (.iload_n 3, 1) := by decide +kernel
theorem dX0_runOfBoostToLedger_137 : decode cX0_runOfBoostToLedger 137 = .ok (.iload 4, 2) := by decide +kernel
theorem dX0_runOfBoostToLedger_139 : decode cX0_runOfBoostToLedger 139 = .ok (.invokevirtual 74, 3) := by decide +kernel
theorem dX0_runOfBoostToLedger_142 : decode cX0_runOfBoostToLedger 142 = .ok (.aload_n 0, 1) := by decide +kernel
theorem dX0_runOfBoostToLedger_143 : decode cX0_runOfBoostToLedger 143 = .ok (.aload_n 1, 1) := by decide +kernel
theorem dX0_runOfBoostToLedger_144 : decode cX0_runOfBoostToLedger 144 = .ok (.iconst 1, 1) := by decide +kernel
theorem dX0_runOfBoostToLedger_145 : decode cX0_runOfBoostToLedger 145 = .ok (.iconst 2, 1) := by decide +kernel
theorem dX0_runOfBoostToLedger_146 : decode cX0_runOfBoostToLedger 146 = .ok (.iload 4, 2) := by decide +kernel
theorem dX0_runOfBoostToLedger_148 : decode cX0_runOfBoostToLedger 148 = .ok (.invokevirtual 61, 3) := by decide +kernel
theorem dX0_runOfBoostToLedger_151 : decode cX0_runOfBoostToLedger 151 = .ok (.iadd, 1) := by decide +kernel
theorem dX0_runOfBoostToLedger_152 : decode cX0_runOfBoostToLedger 152 = .ok (.ireturn, 1) := by decide +kernel
theorem dX0_runOfBoostToLedger_153 : decode cX0_runOfBoostToLedger 153 = .ok (.aload_n 0, 1) := by decide +kernel
theorem dX0_runOfBoostToLedger_154 : decode cX0_runOfBoostToLedger 154 = .ok (.aload_n 1, 1) := by decide +kernel
theorem dX0_runOfBoostToLedger_155 : decode cX0_runOfBoostToLedger 155 = .ok (.bipush 10, 2) := by decide +kernel
theorem dX0_runOfBoostToLedger_157 : decode cX0_runOfBoostToLedger 157 = .ok (.iload_n 3, 1) := by decide +kernel
theorem dX0_runOfBoostToLedger_158 : decode cX0_runOfBoostToLedger 158 = .ok (.iload 4, 2) := by decide +kernel
theorem dX0_runOfBoostToLedger_160 : decode cX0_runOfBoostToLedger 160 = .ok (.invokevirtual 61, 3) := by decide +kernel
theorem dX0_runOfBoostToLedger_163 : decode cX0_runOfBoostToLedger 163 = .ok (.iconst 2, 1) := by decide +kernel
theorem dX0_runOfBoostToLedger_164 : decode cX0_runOfBoostToLedger 164 = .ok (.imul, 1) := by decide +kernel
theorem dX0_runOfBoostToLedger_165 : decode cX0_runOfBoostToLedger 165 = .ok (.ireturn, 1) := by decide +kernel
theorem dX0_runOfBoostToLedger_166 : decode cX0_runOfBoostToLedger 166 = .ok (.aload_n 1, 1) := by decide +kernel
theorem dX0_runOfBoostToLedger_167 : decode cX0_runOfBoostToLedger 167 = .ok (.getfield 71, 3) := by decide +kernel
theorem dX0_runOfBoostToLedger_170 : decode cX0_runOfBoostToLedger 170 = .ok (.iload_n 3, 1) := by decide +kernel
theorem dX0_runOfBoostToLedger_171 : decode cX0_runOfBoostToLedger 171 = .ok (.iadd, 1) := by decide +kernel
theorem dX0_runOfBoostToLedger_172 : decode cX0_runOfBoostToLedger 172 = .ok (.ireturn, 1) := by decide +kernel
theorem dX0_runOfBoostToLedger_173 : decode cX0_runOfBoostToLedger 173 = .ok (.aload_n 0, 1) := by decide +kernel
theorem dX0_runOfBoostToLedger_174 : decode cX0_runOfBoostToLedger 174 = .ok (.bipush 17, 2) := by decide +kernel
theorem dX0_runOfBoostToLedger_176 : decode cX0_runOfBoostToLedger 176 = .ok (.aload_n 1, 1) := by decide +kernel
theorem dX0_runOfBoostToLedger_177 : decode cX0_runOfBoostToLedger 177 = .ok (.bipush 7, 2) := by decide +kernel
theorem dX0_runOfBoostToLedger_179 : decode cX0_runOfBoostToLedger 179 = .ok (.iload_n 3, 1) := by decide +kernel
theorem dX0_runOfBoostToLedger_180 : decode cX0_runOfBoostToLedger 180 = .ok (.iload 4, 2) := by decide +kernel
theorem dX0_runOfBoostToLedger_182 : decode cX0_runOfBoostToLedger 182 = .ok (.invokevirtual 64, 3) := by decide +kernel
theorem dX0_runOfBoostToLedger_185 : decode cX0_runOfBoostToLedger 185 = .ok (.aload_n 0, 1) := by decide +kernel
theorem dX0_runOfBoostToLedger_186 : decode cX0_runOfBoostToLedger 186 = .ok (.aload_n 1, 1) := by decide +kernel
theorem dX0_runOfBoostToLedger_187 : decode cX0_runOfBoostToLedger 187 = .ok (.sipush 200, 3) := by decide +kernel
theorem dX0_runOfBoostToLedger_190 : decode cX0_runOfBoostToLedger 190 = .ok (.iload_n 3, 1) := by decide +kernel
theorem dX0_runOfBoostToLedger_191 : decode cX0_runOfBoostToLedger 191 = .ok (.iload 4, 2) := by decide +kernel
theorem dX0_runOfBoostToLedger_193 : decode cX0_runOfBoostToLedger 193 = .ok (.invokevirtual 34, 3) := by decide +kernel
theorem dX0_runOfBoostToLedger_196 : decode cX0_runOfBoostToLedger 196 = .ok (.iadd, 1) := by decide +kernel
theorem dX0_runOfBoostToLedger_197 : decode cX0_runOfBoostToLedger 197 = .ok (.ireturn, 1) := by decide +kernel
theorem dX0_runOfBoostToLedger_198 : decode cX0_runOfBoostToLedger 198 = .ok (.aload_n 0, 1) := by decide +kernel
theorem dX0_runOfBoostToLedger_199 : decode cX0_runOfBoostToLedger 199 = .ok (.bipush 15, 2) := by decide +kernel
theorem dX0_runOfBoostToLedger_201 : decode cX0_runOfBoostToLedger 201 = .ok (.aload_n 1, 1) := by decide +kernel
theorem dX0_runOfBoostToLedger_202 : decode cX0_runOfBoostToLedger 202 = .ok (.iconst 2, 1) := by decide +kernel
theorem dX0_runOfBoostToLedger_203 : decode cX0_runOfBoostToLedger 203 = .ok (.iload_n 3, 1) := by decide +kernel
theorem dX0_runOfBoostToLedger_204 : decode cX0_runOfBoostToLedger 204 = .ok (.iload 4, 2) := by decide +kernel
theorem dX0_runOfBoostToLedger_206 : decode cX0_runOfBoostToLedger 206 = .ok (.invokevirtual 64, 3) := by decide +kernel
theorem dX0_runOfBoostToLedger_209 : decode cX0_runOfBoostToLedger 209 = .ok (.aload_n 0, 1) := by decide +kernel
theorem dX0_runOfBoostToLedger_210 : decode cX0_runOfBoostToLedger 210 = .ok (.bipush 10, 2) := by decide +kernel
theorem dX0_runOfBoostToLedger_212 : decode cX0_runOfBoostToLedger 212 = .ok (.aload_n 1, 1) := by decide +kernel
theorem dX0_runOfBoostToLedger_213 : decode cX0_runOfBoostToLedger 213 = .ok (.iconst 2, 1) := by decide +kernel
theorem dX0_runOfBoostToLedger_214 : decode cX0_runOfBoostToLedger 214 = .ok (.iload_n 3, 1) := by decide +kernel
theorem dX0_runOfBoostToLedger_215 : decode cX0_runOfBoostToLedger 215 = .ok (.iload 4, 2) := by decide +kernel
theorem dX0_runOfBoostToLedger_217 : decode cX0_runOfBoostToLedger 217 = .ok (.invokevirtual 74, 3) := by decide +kernel
theorem dX0_runOfBoostToLedger_220 : decode cX0_runOfBoostToLedger 220 = .ok (.iadd, 1) := by decide +kernel
theorem dX0_runOfBoostToLedger_221 : decode cX0_runOfBoostToLedger 221 = .ok (.ireturn, 1) := by decide +kernel
theorem dX0_runOfBoostToLedger_222 : decode cX0_runOfBoostToLedger 222 = .ok (.aload_n 0, 1) := by decide +kernel
theorem dX0_runOfBoostToLedger_223 : decode cX0_runOfBoostToLedger 223 = .ok (.bipush 10, 2) := by decide +kernel
theorem dX0_runOfBoostToLedger_225 : decode cX0_runOfBoostToLedger 225 = .ok (.aload_n 1, 1) := by decide +kernel
theorem dX0_runOfBoostToLedger_226 : decode cX0_runOfBoostToLedger 226 = .ok (.iconst 5, 1) := by decide +kernel
theorem dX0_runOfBoostToLedger_227 : decode cX0_runOfBoostToLedger 227 = .ok (.iload_n 3, 1) := by decide +kernel
theorem dX0_runOfBoostToLedger_228 : decode cX0_runOfBoostToLedger 228 = .ok (.iload 4, 2) := by decide +kernel
theorem dX0_runOfBoostToLedger_230 : decode cX0_runOfBoostToLedger 230 = .ok (.invokevirtual 74, 3) := by decide +kernel
theorem dX0_runOfBoostToLedger_233 : decode cX0_runOfBoostToLedger 233 = .ok (.iconst 1, 1) := by decide +kernel
theorem dX0_runOfBoostToLedger_234 : decode cX0_runOfBoostToLedger 234 = .ok (.iadd, 1) := by decide +kernel
theorem dX0_runOfBoostToLedger_235 : decode cX0_runOfBoostToLedger 235 = .ok (.ireturn, 1) := by decide +kernel
theorem dX0_runOfBoostToLedger_236 : decode cX0_runOfBoostToLedger 236 = .ok (.iconst 0, 1) := by decide +kernel
theorem dX0_runOfBoostToLedger_237 : decode cX0_runOfBoostToLedger 237 = .ok (.ireturn, 1) := by decide +kernel
theorem dX1_init_0 : decode cX1_init 0 = .ok (.aload_n 0, 1) := by decide +kernel
theorem dX1_init_1 : decode cX1_init 1 = .ok (.invokespecial 1, 3) := by decide +kernel
theorem dX1_init_4 : decode cX1_init 4 = .ok (.aload_n 0, 1) := by decide +kernel
theorem dX1_init_5 : decode cX1_init 5 = .ok (.iload_n 1, 1) := by decide +kernel
theorem dX1_init_6 : decode cX1_init 6 = .ok (.putfield 7, 3) := by decide +kernel
theorem dX1_init_9 : decode cX1_init 9 = .ok (.aload_n 0, 1) := by decide +kernel
theorem dX1_init_10 : decode cX1_init 10 = .ok (.iload_n 2, 1) := by decide +kernel
theorem dX1_init_11 : decode cX1_init 11 = .ok (.putfield 13, 3) := by decide +kernel
theorem dX1_init_14 : decode cX1_init 14 = .ok (.aload_n 0, 1) := by decide +kernel
theorem dX1_init_15 : decode cX1_init 15 = .ok (.iload_n 1, 1) := by decide +kernel
theorem dX1_init_16 : decode cX1_init 16 = .ok (.invokestatic 16, 3) := by decide +kernel
theorem dX1_init_19 : decode cX1_init 19 = .ok (.putfield 22, 3) := by decide +kernel
theorem dX1_init_22 : decode cX1_init 22 = .ok (.aload_n 0, 1) := by decide +kernel
theorem dX1_init_23 : decode cX1_init 23 = .ok (.aload_n 0, 1) := by decide +kernel
theorem dX1_init_24 : decode cX1_init 24 = .ok (.getfield 22, 3) := by decide +kernel
theorem dX1_init_27 : decode cX1_init 27 = .ok (.invokestatic 25, 3) := by decide +kernel
theorem dX1_init_30 : decode cX1_init 30 = .ok (.putfield 28, 3) := by decide +kernel
theorem dX1_init_33 : decode cX1_init 33 = .ok (.return_, 1) := by decide +kernel
theorem dX1_bears_0 : decode cX1_bears 0 = .ok (.aload_n 0, 1) := by decide +kernel
theorem dX1_bears_1 : decode cX1_bears 1 = .ok (.getfield 22, 3) := by decide +kernel
theorem dX1_bears_4 : decode cX1_bears 4 = .ok (.iload_n 1, 1) := by decide +kernel
theorem dX1_bears_5 : decode cX1_bears 5 = .ok (.invokestatic 31, 3) := by decide +kernel
theorem dX1_bears_8 : decode cX1_bears 8 = .ok (.ireturn, 1) := by decide +kernel
theorem dX1_hasAct_0 : decode cX1_hasAct 0 = .ok (.iload_n 2, 1) := by decide +kernel
theorem dX1_hasAct_1 : decode cX1_hasAct 1 = .ok (.ifCond .ne 10, 3) := by decide +kernel
theorem dX1_hasAct_4 : decode cX1_hasAct 4 = .ok (.aload_n 0, 1) := by decide +kernel
theorem dX1_hasAct_5 : decode cX1_hasAct 5 = .ok (.getfield 28, 3) := by decide +kernel
theorem dX1_hasAct_8 : decode cX1_hasAct 8 = .ok (.goto 7, 3) := by decide +kernel
theorem dX1_hasAct_11 : decode cX1_hasAct 11 = .ok (.iload_n 2, 1) := by decide +kernel
theorem dX1_hasAct_12 : decode cX1_hasAct 12 = .ok (.invokestatic 35, 3) := by decide +kernel
theorem dX1_hasAct_15 : decode cX1_hasAct 15 = .ok (.iload_n 1, 1) := by decide +kernel
theorem dX1_hasAct_16 : decode cX1_hasAct 16 = .ok (.invokestatic 31, 3) := by decide +kernel
theorem dX1_hasAct_19 : decode cX1_hasAct 19 = .ok (.ireturn, 1) := by decide +kernel
theorem dX1_actOfTaking_0 : decode cX1_actOfTaking 0 = .ok (.aload_n 0, 1) := by decide +kernel
theorem dX1_actOfTaking_1 : decode cX1_actOfTaking 1 = .ok (.iconst 3, 1) := by decide +kernel
theorem dX1_actOfTaking_2 : decode cX1_actOfTaking 2 = .ok (.invokevirtual 38, 3) := by decide +kernel
theorem dX1_actOfTaking_5 : decode cX1_actOfTaking 5 = .ok (.ifCond .eq 5, 3) := by decide +kernel
theorem dX1_actOfTaking_8 : decode cX1_actOfTaking 8 = .ok (.iconst 4, 1) := by decide +kernel
theorem dX1_actOfTaking_9 : decode cX1_actOfTaking 9 = .ok (.ireturn, 1) := by decide +kernel
theorem dX1_actOfTaking_10 : decode cX1_actOfTaking 10 = .ok (.aload_n 0, 1) := by decide +kernel
theorem dX1_actOfTaking_11 : decode cX1_actOfTaking 11 = .ok (.iconst 2, 1) := by decide +kernel
theorem dX1_actOfTaking_12 : decode cX1_actOfTaking 12 = .ok (.invokevirtual 38, 3) := by decide +kernel
theorem dX1_actOfTaking_15 : decode cX1_actOfTaking 15 = .ok (.ifCond .eq 7, 3) := by decide +kernel
theorem dX1_actOfTaking_18 : decode cX1_actOfTaking 18 = .ok (.iconst 1, 1) := by decide +kernel
theorem dX1_actOfTaking_19 : decode cX1_actOfTaking 19 = .ok (.goto 5, 3) := by decide +kernel
theorem dX1_actOfTaking_22 : decode cX1_actOfTaking 22 = .ok (.bipush 6, 2) := by decide +kernel
theorem dX1_actOfTaking_24 : decode cX1_actOfTaking 24 = .ok (.ireturn, 1) := by decide +kernel
theorem dX1_addLinkTo_0 : decode cX1_addLinkTo 0 = .ok (.new 42, 3) := by decide +kernel
theorem dX1_addLinkTo_3 : decode cX1_addLinkTo 3 = .ok (.dup, 1) := by decide +kernel
theorem dX1_addLinkTo_4 : decode cX1_addLinkTo 4 = .ok (.aload_n 1, 1) := by decide +kernel
theorem dX1_addLinkTo_5 : decode cX1_addLinkTo 5 = .ok (.invokespecial 44, 3) := by decide +kernel
theorem dX1_addLinkTo_8 : decode cX1_addLinkTo 8 = .ok (.astore_n 2, 1) := by decide +kernel
theorem dX1_addLinkTo_9 : decode cX1_addLinkTo 9 = .ok (.aload_n 0, 1) := by decide +kernel
theorem dX1_addLinkTo_10 : decode cX1_addLinkTo 10 = .ok (.getfield 47, 3) := by decide +kernel
theorem dX1_addLinkTo_13 : decode cX1_addLinkTo 13 = .ok (.ifnonnull 11, 3) := by decide +kernel
theorem dX1_addLinkTo_16 : decode cX1_addLinkTo 16 = .ok (.aload_n 0, 1) := by decide +kernel
theorem dX1_addLinkTo_17 : decode cX1_addLinkTo 17 = .ok (.aload_n 2, 1) := by decide +kernel
theorem dX1_addLinkTo_18 : decode cX1_addLinkTo 18 = .ok (.putfield 51, 3) := by decide +kernel
theorem dX1_addLinkTo_21 : decode cX1_addLinkTo 21 = .ok (.goto 11, 3) := by decide +kernel
theorem dX1_addLinkTo_24 : decode cX1_addLinkTo 24 = .ok (.aload_n 0, 1) := by decide +kernel
theorem dX1_addLinkTo_25 : decode cX1_addLinkTo 25 = .ok (.getfield 47, 3) := by decide +kernel
theorem dX1_addLinkTo_28 : decode cX1_addLinkTo 28 = .ok (.aload_n 2, 1) := by decide +kernel
theorem dX1_addLinkTo_29 : decode cX1_addLinkTo 29 = .ok (.putfield 54, 3) := by decide +kernel
theorem dX1_addLinkTo_32 : decode cX1_addLinkTo 32 = .ok (.aload_n 0, 1) := by decide +kernel
theorem dX1_addLinkTo_33 : decode cX1_addLinkTo 33 = .ok (.aload_n 2, 1) := by decide +kernel
theorem dX1_addLinkTo_34 : decode cX1_addLinkTo 34 = .ok (.putfield 47, 3) := by decide +kernel
theorem dX1_addLinkTo_37 : decode cX1_addLinkTo 37 = .ok (.aload_n 0, 1) := by decide +kernel
theorem dX1_addLinkTo_38 : decode cX1_addLinkTo 38 = .ok (.dup, 1) := by decide +kernel
theorem dX1_addLinkTo_39 : decode cX1_addLinkTo 39 = .ok (.getfield 57, 3) := by decide +kernel
theorem dX1_addLinkTo_42 : decode cX1_addLinkTo 42 = .ok (.iconst 1, 1) := by decide +kernel
theorem dX1_addLinkTo_43 : decode cX1_addLinkTo 43 = .ok (.iadd, 1) := by decide +kernel
theorem dX1_addLinkTo_44 : decode cX1_addLinkTo 44 = .ok (.putfield 57, 3) := by decide +kernel
theorem dX1_addLinkTo_47 : decode cX1_addLinkTo 47 = .ok (.aload_n 1, 1) := by decide +kernel
theorem dX1_addLinkTo_48 : decode cX1_addLinkTo 48 = .ok (.dup, 1) := by decide +kernel
theorem dX1_addLinkTo_49 : decode cX1_addLinkTo 49 = .ok (.getfield 60, 3) := by decide +kernel
theorem dX1_addLinkTo_52 : decode cX1_addLinkTo 52 = .ok (.iconst 1, 1) := by decide +kernel
theorem dX1_addLinkTo_53 : decode cX1_addLinkTo 53 = .ok (.iadd, 1) := by decide +kernel
theorem dX1_addLinkTo_54 : decode cX1_addLinkTo 54 = .ok (.putfield 60, 3) := by decide +kernel
theorem dX1_addLinkTo_57 : decode cX1_addLinkTo 57 = .ok (.return_, 1) := by decide +kernel
theorem dX1_isProperty_0 : decode cX1_isProperty 0 = .ok (.iload_n 0, 1) := by decide +kernel
theorem dX1_isProperty_1 : decode cX1_isProperty 1 = .ok (.ifCond .lt 12, 3) := by decide +kernel
theorem dX1_isProperty_4 : decode cX1_isProperty 4 = .ok (.iload_n 0, 1) := by decide +kernel
theorem dX1_isProperty_5 : decode cX1_isProperty 5 = .ok (.iconst 5, 1) := by decide +kernel
theorem dX1_isProperty_6 : decode cX1_isProperty 6 = .ok (.if_icmp .gt 7, 3) := by decide +kernel
theorem dX1_isProperty_9 : decode cX1_isProperty 9 = .ok (.iconst 1, 1) := by decide +kernel
theorem dX1_isProperty_10 : decode cX1_isProperty 10 = .ok (.goto 4, 3) := by decide +kernel
theorem dX1_isProperty_13 : decode cX1_isProperty 13 = .ok (.iconst 0, 1) := by decide +kernel
theorem dX1_isProperty_14 : decode cX1_isProperty 14 = .ok (.ireturn, 1) := by decide +kernel
theorem dX1_property_0 : decode cX1_property 0 = .ok (.iload_n 1, 1) := by decide +kernel
theorem dX1_property_1 : decode cX1_property 1 = .ok (.tableswitch 69 0 5 #[39, 44, 49, 54, 59, 64], 39) := by decide +kernel
theorem dX1_property_40 : decode cX1_property 40 = .ok (.aload_n 0, 1) := by decide +kernel
theorem dX1_property_41 : decode cX1_property 41 = .ok (.getfield 7, 3) := by decide +kernel
theorem dX1_property_44 : decode cX1_property 44 = .ok (.ireturn, 1) := by decide +kernel
theorem dX1_property_45 : decode cX1_property 45 = .ok (.aload_n 0, 1) := by decide +kernel
theorem dX1_property_46 : decode cX1_property 46 = .ok (.getfield 13, 3) := by decide +kernel
theorem dX1_property_49 : decode cX1_property 49 = .ok (.ireturn, 1) := by decide +kernel
theorem dX1_property_50 : decode cX1_property 50 = .ok (.aload_n 0, 1) := by decide +kernel
theorem dX1_property_51 : decode cX1_property 51 = .ok (.getfield 63, 3) := by decide +kernel
theorem dX1_property_54 : decode cX1_property 54 = .ok (.ireturn, 1) := by decide +kernel
theorem dX1_property_55 : decode cX1_property 55 = .ok (.aload_n 0, 1) := by decide +kernel
theorem dX1_property_56 : decode cX1_property 56 = .ok (.getfield 57, 3) := by decide +kernel
theorem dX1_property_59 : decode cX1_property 59 = .ok (.ireturn, 1) := by decide +kernel
theorem dX1_property_60 : decode cX1_property 60 = .ok (.aload_n 0, 1) := by decide +kernel
theorem dX1_property_61 : decode cX1_property 61 = .ok (.getfield 60, 3) := by decide +kernel
theorem dX1_property_64 : decode cX1_property 64 = .ok (.ireturn, 1) := by decide +kernel
theorem dX1_property_65 : decode cX1_property 65 = .ok (.aload_n 0, 1) := by decide +kernel
theorem dX1_property_66 : decode cX1_property 66 = .ok (.getfield 66, 3) := by decide +kernel
theorem dX1_property_69 : decode cX1_property 69 = .ok (.ireturn, 1) := by decide +kernel
theorem dX1_property_70 : decode cX1_property 70 = .ok (.iconst 0, 1) := by decide +kernel
theorem dX1_property_71 : decode cX1_property 71 = .ok (.ireturn, 1) := by decide +kernel
theorem dX2_isKind_0 : decode cX2_isKind 0 = .ok (.iload_n 0, 1) := by decide +kernel
theorem dX2_isKind_1 : decode cX2_isKind 1 = .ok (.ifCond .lt 13, 3) := by decide +kernel
theorem dX2_isKind_4 : decode cX2_isKind 4 = .ok (.iload_n 0, 1) := by decide +kernel
theorem dX2_isKind_5 : decode cX2_isKind 5 = .ok (.bipush 11, 2) := by decide +kernel
theorem dX2_isKind_7 : decode cX2_isKind 7 = .ok (.if_icmp .ge 7, 3) := by decide +kernel
theorem dX2_isKind_10 : decode cX2_isKind 10 = .ok (.iconst 1, 1) := by decide +kernel
theorem dX2_isKind_11 : decode cX2_isKind 11 = .ok (.goto 4, 3) := by decide +kernel
theorem dX2_isKind_14 : decode cX2_isKind 14 = .ok (.iconst 0, 1) := by decide +kernel
theorem dX2_isKind_15 : decode cX2_isKind 15 = .ok (.ireturn, 1) := by decide +kernel
theorem dX2_isAct_0 : decode cX2_isAct 0 = .ok (.iload_n 0, 1) := by decide +kernel
theorem dX2_isAct_1 : decode cX2_isAct 1 = .ok (.ifCond .lt 13, 3) := by decide +kernel
theorem dX2_isAct_4 : decode cX2_isAct 4 = .ok (.iload_n 0, 1) := by decide +kernel
theorem dX2_isAct_5 : decode cX2_isAct 5 = .ok (.bipush 12, 2) := by decide +kernel
theorem dX2_isAct_7 : decode cX2_isAct 7 = .ok (.if_icmp .ge 7, 3) := by decide +kernel
theorem dX2_isAct_10 : decode cX2_isAct 10 = .ok (.iconst 1, 1) := by decide +kernel
theorem dX2_isAct_11 : decode cX2_isAct 11 = .ok (.goto 4, 3) := by decide +kernel
theorem dX2_isAct_14 : decode cX2_isAct 14 = .ok (.iconst 0, 1) := by decide +kernel
theorem dX2_isAct_15 : decode cX2_isAct 15 = .ok (.ireturn, 1) := by decide +kernel
theorem dX2_isWay_0 : decode cX2_isWay 0 = .ok (.iload_n 0, 1) := by decide +kernel
theorem dX2_isWay_1 : decode cX2_isWay 1 = .ok (.ifCond .lt 13, 3) := by decide +kernel
theorem dX2_isWay_4 : decode cX2_isWay 4 = .ok (.iload_n 0, 1) := by decide +kernel
theorem dX2_isWay_5 : decode cX2_isWay 5 = .ok (.bipush 7, 2) := by decide +kernel
theorem dX2_isWay_7 : decode cX2_isWay 7 = .ok (.if_icmp .ge 7, 3) := by decide +kernel
theorem dX2_isWay_10 : decode cX2_isWay 10 = .ok (.iconst 1, 1) := by decide +kernel
theorem dX2_isWay_11 : decode cX2_isWay 11 = .ok (.goto 4, 3) := by decide +kernel
theorem dX2_isWay_14 : decode cX2_isWay 14 = .ok (.iconst 0, 1) := by decide +kernel
theorem dX2_isWay_15 : decode cX2_isWay 15 = .ok (.ireturn, 1) := by decide +kernel
theorem dX2_isType_0 : decode cX2_isType 0 = .ok (.iload_n 0, 1) := by decide +kernel
theorem dX2_isType_1 : decode cX2_isType 1 = .ok (.ifCond .lt 13, 3) := by decide +kernel
theorem dX2_isType_4 : decode cX2_isType 4 = .ok (.iload_n 0, 1) := by decide +kernel
theorem dX2_isType_5 : decode cX2_isType 5 = .ok (.bipush 18, 2) := by decide +kernel
theorem dX2_isType_7 : decode cX2_isType 7 = .ok (.if_icmp .ge 7, 3) := by decide +kernel
theorem dX2_isType_10 : decode cX2_isType 10 = .ok (.iconst 1, 1) := by decide +kernel
theorem dX2_isType_11 : decode cX2_isType 11 = .ok (.goto 4, 3) := by decide +kernel
theorem dX2_isType_14 : decode cX2_isType 14 = .ok (.iconst 0, 1) := by decide +kernel
theorem dX2_isType_15 : decode cX2_isType 15 = .ok (.ireturn, 1) := by decide +kernel
theorem dX2_contains_0 : decode cX2_contains 0 = .ok (.iload_n 0, 1) := by decide +kernel
theorem dX2_contains_1 : decode cX2_contains 1 = .ok (.iconst 1, 1) := by decide +kernel
theorem dX2_contains_2 : decode cX2_contains 2 = .ok (.iload_n 1, 1) := by decide +kernel
theorem dX2_contains_3 : decode cX2_contains 3 = .ok (.ishl, 1) := by decide +kernel
theorem dX2_contains_4 : decode cX2_contains 4 = .ok (.iand, 1) := by decide +kernel
theorem dX2_contains_5 : decode cX2_contains 5 = .ok (.ifCond .eq 7, 3) := by decide +kernel
theorem dX2_contains_8 : decode cX2_contains 8 = .ok (.iconst 1, 1) := by decide +kernel
theorem dX2_contains_9 : decode cX2_contains 9 = .ok (.goto 4, 3) := by decide +kernel
theorem dX2_contains_12 : decode cX2_contains 12 = .ok (.iconst 0, 1) := by decide +kernel
theorem dX2_contains_13 : decode cX2_contains 13 = .ok (.ireturn, 1) := by decide +kernel
theorem dX2_parentOf_0 : decode cX2_parentOf 0 = .ok (.iload_n 0, 1) := by decide +kernel
theorem dX2_parentOf_1 : decode cX2_parentOf 1 = .ok (.invokestatic 11, 3) := by decide +kernel
theorem dX2_parentOf_4 : decode cX2_parentOf 4 = .ok (.ifCond .eq 11, 3) := by decide +kernel
theorem dX2_parentOf_7 : decode cX2_parentOf 7 = .ok (.getstatic 15, 3) := by decide +kernel
theorem dX2_parentOf_10 : decode cX2_parentOf 10 = .ok (.iload_n 0, 1) := by decide +kernel
theorem dX2_parentOf_11 : decode cX2_parentOf 11 = .ok (.iaload, 1) := by decide +kernel
theorem dX2_parentOf_12 : decode cX2_parentOf 12 = .ok (.goto 4, 3) := by decide +kernel
theorem dX2_parentOf_15 : decode cX2_parentOf 15 = .ok (.iconst (-1), 1) := by decide +kernel
theorem dX2_parentOf_16 : decode cX2_parentOf 16 = .ok (.ireturn, 1) := by decide +kernel
theorem dX2_namedBy_0 : decode cX2_namedBy 0 = .ok (.iload_n 0, 1) := by decide +kernel
theorem dX2_namedBy_1 : decode cX2_namedBy 1 = .ok (.invokestatic 11, 3) := by decide +kernel
theorem dX2_namedBy_4 : decode cX2_namedBy 4 = .ok (.ifCond .eq 11, 3) := by decide +kernel
theorem dX2_namedBy_7 : decode cX2_namedBy 7 = .ok (.getstatic 19, 3) := by decide +kernel
theorem dX2_namedBy_10 : decode cX2_namedBy 10 = .ok (.iload_n 0, 1) := by decide +kernel
theorem dX2_namedBy_11 : decode cX2_namedBy 11 = .ok (.iaload, 1) := by decide +kernel
theorem dX2_namedBy_12 : decode cX2_namedBy 12 = .ok (.goto 4, 3) := by decide +kernel
theorem dX2_namedBy_15 : decode cX2_namedBy 15 = .ok (.iconst 0, 1) := by decide +kernel
theorem dX2_namedBy_16 : decode cX2_namedBy 16 = .ok (.ireturn, 1) := by decide +kernel
theorem dX2_actsOfWay_0 : decode cX2_actsOfWay 0 = .ok (.iload_n 0, 1) := by decide +kernel
theorem dX2_actsOfWay_1 : decode cX2_actsOfWay 1 = .ok (.invokestatic 22, 3) := by decide +kernel
theorem dX2_actsOfWay_4 : decode cX2_actsOfWay 4 = .ok (.ifCond .eq 11, 3) := by decide +kernel
theorem dX2_actsOfWay_7 : decode cX2_actsOfWay 7 = .ok (.getstatic 25, 3) := by decide +kernel
theorem dX2_actsOfWay_10 : decode cX2_actsOfWay 10 = .ok (.iload_n 0, 1) := by decide +kernel
theorem dX2_actsOfWay_11 : decode cX2_actsOfWay 11 = .ok (.iaload, 1) := by decide +kernel
theorem dX2_actsOfWay_12 : decode cX2_actsOfWay 12 = .ok (.goto 4, 3) := by decide +kernel
theorem dX2_actsOfWay_15 : decode cX2_actsOfWay 15 = .ok (.iconst 0, 1) := by decide +kernel
theorem dX2_actsOfWay_16 : decode cX2_actsOfWay 16 = .ok (.ireturn, 1) := by decide +kernel
theorem dX2_bodyOf_0 : decode cX2_bodyOf 0 = .ok (.iload_n 0, 1) := by decide +kernel
theorem dX2_bodyOf_1 : decode cX2_bodyOf 1 = .ok (.invokestatic 11, 3) := by decide +kernel
theorem dX2_bodyOf_4 : decode cX2_bodyOf 4 = .ok (.ifCond .eq 23, 3) := by decide +kernel
theorem dX2_bodyOf_7 : decode cX2_bodyOf 7 = .ok (.iload_n 1, 1) := by decide +kernel
theorem dX2_bodyOf_8 : decode cX2_bodyOf 8 = .ok (.invokestatic 28, 3) := by decide +kernel
theorem dX2_bodyOf_11 : decode cX2_bodyOf 11 = .ok (.ifCond .eq 16, 3) := by decide +kernel
theorem dX2_bodyOf_14 : decode cX2_bodyOf 14 = .ok (.getstatic 31, 3) := by decide +kernel
theorem dX2_bodyOf_17 : decode cX2_bodyOf 17 = .ok (.iload_n 0, 1) := by decide +kernel
theorem dX2_bodyOf_18 : decode cX2_bodyOf 18 = .ok (.bipush 12, 2) := by decide +kernel
theorem dX2_bodyOf_20 : decode cX2_bodyOf 20 = .ok (.imul, 1) := by decide +kernel
theorem dX2_bodyOf_21 : decode cX2_bodyOf 21 = .ok (.iload_n 1, 1) := by decide +kernel
theorem dX2_bodyOf_22 : decode cX2_bodyOf 22 = .ok (.iadd, 1) := by decide +kernel
theorem dX2_bodyOf_23 : decode cX2_bodyOf 23 = .ok (.iaload, 1) := by decide +kernel
theorem dX2_bodyOf_24 : decode cX2_bodyOf 24 = .ok (.goto 4, 3) := by decide +kernel
theorem dX2_bodyOf_27 : decode cX2_bodyOf 27 = .ok (.iconst 0, 1) := by decide +kernel
theorem dX2_bodyOf_28 : decode cX2_bodyOf 28 = .ok (.ireturn, 1) := by decide +kernel
theorem dX2_faceOfWay_0 : decode cX2_faceOfWay 0 = .ok (.iload_n 0, 1) := by decide +kernel
theorem dX2_faceOfWay_1 : decode cX2_faceOfWay 1 = .ok (.iconst 2, 1) := by decide +kernel
theorem dX2_faceOfWay_2 : decode cX2_faceOfWay 2 = .ok (.isub, 1) := by decide +kernel
theorem dX2_faceOfWay_3 : decode cX2_faceOfWay 3 = .ok (.bipush 13, 2) := by decide +kernel
theorem dX2_faceOfWay_5 : decode cX2_faceOfWay 5 = .ok (.iadd, 1) := by decide +kernel
theorem dX2_faceOfWay_6 : decode cX2_faceOfWay 6 = .ok (.ireturn, 1) := by decide +kernel
theorem dX2_facesOf_0 : decode cX2_facesOf 0 = .ok (.iconst 0, 1) := by decide +kernel
theorem dX2_facesOf_1 : decode cX2_facesOf 1 = .ok (.istore_n 1, 1) := by decide +kernel
theorem dX2_facesOf_2 : decode cX2_facesOf 2 = .ok (.iload_n 0, 1) := by decide +kernel
theorem dX2_facesOf_3 : decode cX2_facesOf 3 = .ok (.istore_n 2, 1) := by decide +kernel
theorem dX2_facesOf_4 : decode cX2_facesOf 4 = .ok (.iconst 0, 1) := by decide +kernel
theorem dX2_facesOf_5 : decode cX2_facesOf 5 = .ok (.istore_n 3, 1) := by decide +kernel
theorem dX2_facesOf_6 : decode cX2_facesOf 6 = .ok (.iload_n 3, 1) := by decide +kernel
theorem dX2_facesOf_7 : decode cX2_facesOf 7 = .ok (.bipush 18, 2) := by decide +kernel
theorem dX2_facesOf_9 : decode cX2_facesOf 9 = .ok (.if_icmp .ge 26, 3) := by decide +kernel
theorem dX2_facesOf_12 : decode cX2_facesOf 12 = .ok (.iload_n 2, 1) := by decide +kernel
theorem dX2_facesOf_13 : decode cX2_facesOf 13 = .ok (.iconst (-1), 1) := by decide +kernel
theorem dX2_facesOf_14 : decode cX2_facesOf 14 = .ok (.if_icmp .eq 21, 3) := by decide +kernel
theorem dX2_facesOf_17 : decode cX2_facesOf 17 = .ok (.iload_n 1, 1) := by decide +kernel
theorem dX2_facesOf_18 : decode cX2_facesOf 18 = .ok (.iload_n 2, 1) := by decide +kernel
theorem dX2_facesOf_19 : decode cX2_facesOf 19 = .ok (.invokestatic 34, 3) := by decide +kernel
theorem dX2_facesOf_22 : decode cX2_facesOf 22 = .ok (.ior, 1) := by decide +kernel
theorem dX2_facesOf_23 : decode cX2_facesOf 23 = .ok (.istore_n 1, 1) := by decide +kernel
theorem dX2_facesOf_24 : decode cX2_facesOf 24 = .ok (.iload_n 2, 1) := by decide +kernel
theorem dX2_facesOf_25 : decode cX2_facesOf 25 = .ok (.invokestatic 38, 3) := by decide +kernel
theorem dX2_facesOf_28 : decode cX2_facesOf 28 = .ok (.istore_n 2, 1) := by decide +kernel
theorem dX2_facesOf_29 : decode cX2_facesOf 29 = .ok (.iinc 3 1, 3) := by decide +kernel
theorem dX2_facesOf_32 : decode cX2_facesOf 32 = .ok (.goto (-26), 3) := by decide +kernel
theorem dX2_facesOf_35 : decode cX2_facesOf 35 = .ok (.iload_n 1, 1) := by decide +kernel
theorem dX2_facesOf_36 : decode cX2_facesOf 36 = .ok (.istore_n 3, 1) := by decide +kernel
theorem dX2_facesOf_37 : decode cX2_facesOf 37 = .ok (.iconst 2, 1) := by decide +kernel
theorem dX2_facesOf_38 : decode cX2_facesOf 38 = .ok (.istore 4, 2) := by decide +kernel
theorem dX2_facesOf_40 : decode cX2_facesOf 40 = .ok (.iload 4, 2) := by decide +kernel
theorem dX2_facesOf_42 : decode cX2_facesOf 42 = .ok (.bipush 7, 2) := by decide +kernel
theorem dX2_facesOf_44 : decode cX2_facesOf 44 = .ok (.if_icmp .ge 29, 3) := by decide +kernel
theorem dX2_facesOf_47 : decode cX2_facesOf 47 = .ok (.iload_n 1, 1) := by decide +kernel
theorem dX2_facesOf_48 : decode cX2_facesOf 48 = .ok (.iload 4, 2) := by decide +kernel
theorem dX2_facesOf_50 : decode cX2_facesOf 50 = .ok (.invokestatic 41, 3) := by decide +kernel
theorem dX2_facesOf_53 : decode cX2_facesOf 53 = .ok (.ifCond .eq 14, 3) := by decide +kernel
theorem dX2_facesOf_56 : decode cX2_facesOf 56 = .ok (.iload_n 3, 1) := by decide +kernel
theorem dX2_facesOf_57 : decode cX2_facesOf 57 = .ok (.iload 4, 2) := by decide +kernel
theorem dX2_facesOf_59 : decode cX2_facesOf 59 = .ok (.invokestatic 45, 3) := by decide +kernel
theorem dX2_facesOf_62 : decode cX2_facesOf 62 = .ok (.invokestatic 34, 3) := by decide +kernel
theorem dX2_facesOf_65 : decode cX2_facesOf 65 = .ok (.ior, 1) := by decide +kernel
theorem dX2_facesOf_66 : decode cX2_facesOf 66 = .ok (.istore_n 3, 1) := by decide +kernel
theorem dX2_facesOf_67 : decode cX2_facesOf 67 = .ok (.iinc 4 1, 3) := by decide +kernel
theorem dX2_facesOf_70 : decode cX2_facesOf 70 = .ok (.goto (-30), 3) := by decide +kernel
theorem dX2_facesOf_73 : decode cX2_facesOf 73 = .ok (.iload_n 3, 1) := by decide +kernel
theorem dX2_facesOf_74 : decode cX2_facesOf 74 = .ok (.ireturn, 1) := by decide +kernel
theorem dX2_waysOf_0 : decode cX2_waysOf 0 = .ok (.iconst 3, 1) := by decide +kernel
theorem dX2_waysOf_1 : decode cX2_waysOf 1 = .ok (.iload_n 0, 1) := by decide +kernel
theorem dX2_waysOf_2 : decode cX2_waysOf 2 = .ok (.invokestatic 48, 3) := by decide +kernel
theorem dX2_waysOf_5 : decode cX2_waysOf 5 = .ok (.ior, 1) := by decide +kernel
theorem dX2_waysOf_6 : decode cX2_waysOf 6 = .ok (.ireturn, 1) := by decide +kernel
theorem dX2_actsOfWays_0 : decode cX2_actsOfWays 0 = .ok (.iconst 0, 1) := by decide +kernel
theorem dX2_actsOfWays_1 : decode cX2_actsOfWays 1 = .ok (.istore_n 1, 1) := by decide +kernel
theorem dX2_actsOfWays_2 : decode cX2_actsOfWays 2 = .ok (.iconst 0, 1) := by decide +kernel
theorem dX2_actsOfWays_3 : decode cX2_actsOfWays 3 = .ok (.istore_n 2, 1) := by decide +kernel
theorem dX2_actsOfWays_4 : decode cX2_actsOfWays 4 = .ok (.iload_n 2, 1) := by decide +kernel
theorem dX2_actsOfWays_5 : decode cX2_actsOfWays 5 = .ok (.bipush 7, 2) := by decide +kernel
theorem dX2_actsOfWays_7 : decode cX2_actsOfWays 7 = .ok (.if_icmp .ge 24, 3) := by decide +kernel
theorem dX2_actsOfWays_10 : decode cX2_actsOfWays 10 = .ok (.iload_n 0, 1) := by decide +kernel
theorem dX2_actsOfWays_11 : decode cX2_actsOfWays 11 = .ok (.iload_n 2, 1) := by decide +kernel
theorem dX2_actsOfWays_12 : decode cX2_actsOfWays 12 = .ok (.invokestatic 41, 3) := by decide +kernel
theorem dX2_actsOfWays_15 : decode cX2_actsOfWays 15 = .ok (.ifCond .eq 10, 3) := by decide +kernel
theorem dX2_actsOfWays_18 : decode cX2_actsOfWays 18 = .ok (.iload_n 1, 1) := by decide +kernel
theorem dX2_actsOfWays_19 : decode cX2_actsOfWays 19 = .ok (.iload_n 2, 1) := by decide +kernel
theorem dX2_actsOfWays_20 : decode cX2_actsOfWays 20 = .ok (.invokestatic 51, 3) := by decide +kernel
theorem dX2_actsOfWays_23 : decode cX2_actsOfWays 23 = .ok (.ior, 1) := by decide +kernel
theorem dX2_actsOfWays_24 : decode cX2_actsOfWays 24 = .ok (.istore_n 1, 1) := by decide +kernel
theorem dX2_actsOfWays_25 : decode cX2_actsOfWays 25 = .ok (.iinc 2 1, 3) := by decide +kernel
theorem dX2_actsOfWays_28 : decode cX2_actsOfWays 28 = .ok (.goto (-24), 3) := by decide +kernel
theorem dX2_actsOfWays_31 : decode cX2_actsOfWays 31 = .ok (.iload_n 1, 1) := by decide +kernel
theorem dX2_actsOfWays_32 : decode cX2_actsOfWays 32 = .ok (.ireturn, 1) := by decide +kernel
theorem dX2_selected_0 : decode cX2_selected 0 = .ok (.iload_n 0, 1) := by decide +kernel
theorem dX2_selected_1 : decode cX2_selected 1 = .ok (.istore_n 2, 1) := by decide +kernel
theorem dX2_selected_2 : decode cX2_selected 2 = .ok (.iconst 0, 1) := by decide +kernel
theorem dX2_selected_3 : decode cX2_selected 3 = .ok (.istore_n 3, 1) := by decide +kernel
theorem dX2_selected_4 : decode cX2_selected 4 = .ok (.iload_n 3, 1) := by decide +kernel
theorem dX2_selected_5 : decode cX2_selected 5 = .ok (.bipush 18, 2) := by decide +kernel
theorem dX2_selected_7 : decode cX2_selected 7 = .ok (.if_icmp .ge 34, 3) := by decide +kernel
theorem dX2_selected_10 : decode cX2_selected 10 = .ok (.iload_n 2, 1) := by decide +kernel
theorem dX2_selected_11 : decode cX2_selected 11 = .ok (.iconst (-1), 1) := by decide +kernel
theorem dX2_selected_12 : decode cX2_selected 12 = .ok (.if_icmp .eq 29, 3) := by decide +kernel
theorem dX2_selected_15 : decode cX2_selected 15 = .ok (.iload_n 2, 1) := by decide +kernel
theorem dX2_selected_16 : decode cX2_selected 16 = .ok (.iload_n 1, 1) := by decide +kernel
theorem dX2_selected_17 : decode cX2_selected 17 = .ok (.invokestatic 54, 3) := by decide +kernel
theorem dX2_selected_20 : decode cX2_selected 20 = .ok (.istore 4, 2) := by decide +kernel
theorem dX2_selected_22 : decode cX2_selected 22 = .ok (.iload 4, 2) := by decide +kernel
theorem dX2_selected_24 : decode cX2_selected 24 = .ok (.ifCond .eq 6, 3) := by decide +kernel
theorem dX2_selected_27 : decode cX2_selected 27 = .ok (.iload 4, 2) := by decide +kernel
theorem dX2_selected_29 : decode cX2_selected 29 = .ok (.ireturn, 1) := by decide +kernel
theorem dX2_selected_30 : decode cX2_selected 30 = .ok (.iload_n 2, 1) := by decide +kernel
theorem dX2_selected_31 : decode cX2_selected 31 = .ok (.invokestatic 38, 3) := by decide +kernel
theorem dX2_selected_34 : decode cX2_selected 34 = .ok (.istore_n 2, 1) := by decide +kernel
theorem dX2_selected_35 : decode cX2_selected 35 = .ok (.iinc 3 1, 3) := by decide +kernel
theorem dX2_selected_38 : decode cX2_selected 38 = .ok (.goto (-34), 3) := by decide +kernel
theorem dX2_selected_41 : decode cX2_selected 41 = .ok (.iload_n 0, 1) := by decide +kernel
theorem dX2_selected_42 : decode cX2_selected 42 = .ok (.invokestatic 48, 3) := by decide +kernel
theorem dX2_selected_45 : decode cX2_selected 45 = .ok (.istore_n 3, 1) := by decide +kernel
theorem dX2_selected_46 : decode cX2_selected 46 = .ok (.bipush 6, 2) := by decide +kernel
theorem dX2_selected_48 : decode cX2_selected 48 = .ok (.istore 4, 2) := by decide +kernel
theorem dX2_selected_50 : decode cX2_selected 50 = .ok (.iload 4, 2) := by decide +kernel
theorem dX2_selected_52 : decode cX2_selected 52 = .ok (.iconst 2, 1) := by decide +kernel
theorem dX2_selected_53 : decode cX2_selected 53 = .ok (.if_icmp .lt 41, 3) := by decide +kernel
theorem dX2_selected_56 : decode cX2_selected 56 = .ok (.iload_n 3, 1) := by decide +kernel
theorem dX2_selected_57 : decode cX2_selected 57 = .ok (.iload 4, 2) := by decide +kernel
theorem dX2_selected_59 : decode cX2_selected 59 = .ok (.invokestatic 41, 3) := by decide +kernel
theorem dX2_selected_62 : decode cX2_selected 62 = .ok (.ifCond .eq 15, 3) := by decide +kernel
theorem dX2_selected_65 : decode cX2_selected 65 = .ok (.iload 4, 2) := by decide +kernel
theorem dX2_selected_67 : decode cX2_selected 67 = .ok (.invokestatic 45, 3) := by decide +kernel
theorem dX2_selected_70 : decode cX2_selected 70 = .ok (.iload_n 1, 1) := by decide +kernel
theorem dX2_selected_71 : decode cX2_selected 71 = .ok (.invokestatic 54, 3) := by decide +kernel
theorem dX2_selected_74 : decode cX2_selected 74 = .ok (.goto 4, 3) := by decide +kernel
theorem dX2_selected_77 : decode cX2_selected 77 = .ok (.iconst 0, 1) := by decide +kernel
theorem dX2_selected_78 : decode cX2_selected 78 = .ok (.istore 5, 2) := by decide +kernel
theorem dX2_selected_80 : decode cX2_selected 80 = .ok (.iload 5, 2) := by decide +kernel
theorem dX2_selected_82 : decode cX2_selected 82 = .ok (.ifCond .eq 6, 3) := by decide +kernel
theorem dX2_selected_85 : decode cX2_selected 85 = .ok (.iload 5, 2) := by decide +kernel
theorem dX2_selected_87 : decode cX2_selected 87 = .ok (.ireturn, 1) := by decide +kernel
theorem dX2_selected_88 : decode cX2_selected 88 = .ok (.iinc 4 (-1), 3) := by decide +kernel
theorem dX2_selected_91 : decode cX2_selected 91 = .ok (.goto (-41), 3) := by decide +kernel
theorem dX2_selected_94 : decode cX2_selected 94 = .ok (.iconst 0, 1) := by decide +kernel
theorem dX2_selected_95 : decode cX2_selected 95 = .ok (.ireturn, 1) := by decide +kernel
theorem dX3_init_0 : decode cX3_init 0 = .ok (.aload_n 0, 1) := by decide +kernel
theorem dX3_init_1 : decode cX3_init 1 = .ok (.invokespecial 1, 3) := by decide +kernel
theorem dX3_init_4 : decode cX3_init 4 = .ok (.aload_n 0, 1) := by decide +kernel
theorem dX3_init_5 : decode cX3_init 5 = .ok (.aload_n 1, 1) := by decide +kernel
theorem dX3_init_6 : decode cX3_init 6 = .ok (.putfield 7, 3) := by decide +kernel
theorem dX3_init_9 : decode cX3_init 9 = .ok (.return_, 1) := by decide +kernel
theorem dX4_init_0 : decode cX4_init 0 = .ok (.aload_n 0, 1) := by decide +kernel
theorem dX4_init_1 : decode cX4_init 1 = .ok (.invokespecial 1, 3) := by decide +kernel
theorem dX4_init_4 : decode cX4_init 4 = .ok (.aload_n 0, 1) := by decide +kernel
theorem dX4_init_5 : decode cX4_init 5 = .ok (.new 7, 3) := by decide +kernel
theorem dX4_init_8 : decode cX4_init 8 = .ok (.dup, 1) := by decide +kernel
theorem dX4_init_9 : decode cX4_init 9 = .ok (.invokespecial 9, 3) := by decide +kernel
theorem dX4_init_12 : decode cX4_init 12 = .ok (.putfield 10, 3) := by decide +kernel
theorem dX4_init_15 : decode cX4_init 15 = .ok (.aload_n 0, 1) := by decide +kernel
theorem dX4_init_16 : decode cX4_init 16 = .ok (.sipush 300, 3) := by decide +kernel
theorem dX4_init_19 : decode cX4_init 19 = .ok (.anewarray 16, 3) := by decide +kernel
theorem dX4_init_22 : decode cX4_init 22 = .ok (.putfield 18, 3) := by decide +kernel
theorem dX4_init_25 : decode cX4_init 25 = .ok (.aload_n 0, 1) := by decide +kernel
theorem dX4_init_26 : decode cX4_init 26 = .ok (.sipush 300, 3) := by decide +kernel
theorem dX4_init_29 : decode cX4_init 29 = .ok (.anewarray 16, 3) := by decide +kernel
theorem dX4_init_32 : decode cX4_init 32 = .ok (.putfield 22, 3) := by decide +kernel
theorem dX4_init_35 : decode cX4_init 35 = .ok (.return_, 1) := by decide +kernel
theorem dX4_device_0 : decode cX4_device 0 = .ok (.iload_n 1, 1) := by decide +kernel
theorem dX4_device_1 : decode cX4_device 1 = .ok (.invokestatic 25, 3) := by decide +kernel
theorem dX4_device_4 : decode cX4_device 4 = .ok (.ifCond .ne 10, 3) := by decide +kernel
theorem dX4_device_7 : decode cX4_device 7 = .ok (.aload_n 0, 1) := by decide +kernel
theorem dX4_device_8 : decode cX4_device 8 = .ok (.iconst 1, 1) := by decide +kernel
theorem dX4_device_9 : decode cX4_device 9 = .ok (.putfield 31, 3) := by decide +kernel
theorem dX4_device_12 : decode cX4_device 12 = .ok (.iconst (-1), 1) := by decide +kernel
theorem dX4_device_13 : decode cX4_device 13 = .ok (.ireturn, 1) := by decide +kernel
theorem dX4_device_14 : decode cX4_device 14 = .ok (.aload_n 0, 1) := by decide +kernel
theorem dX4_device_15 : decode cX4_device 15 = .ok (.getfield 35, 3) := by decide +kernel
theorem dX4_device_18 : decode cX4_device 18 = .ok (.sipush 300, 3) := by decide +kernel
theorem dX4_device_21 : decode cX4_device 21 = .ok (.if_icmp .lt 10, 3) := by decide +kernel
theorem dX4_device_24 : decode cX4_device 24 = .ok (.aload_n 0, 1) := by decide +kernel
theorem dX4_device_25 : decode cX4_device 25 = .ok (.iconst 5, 1) := by decide +kernel
theorem dX4_device_26 : decode cX4_device 26 = .ok (.putfield 31, 3) := by decide +kernel
theorem dX4_device_29 : decode cX4_device 29 = .ok (.iconst (-1), 1) := by decide +kernel
theorem dX4_device_30 : decode cX4_device 30 = .ok (.ireturn, 1) := by decide +kernel
theorem dX4_device_31 : decode cX4_device 31 = .ok (.aload_n 0, 1) := by decide +kernel
theorem dX4_device_32 : decode cX4_device 32 = .ok (.getfield 18, 3) := by decide +kernel
theorem dX4_device_35 : decode cX4_device 35 = .ok (.aload_n 0, 1) := by decide +kernel
theorem dX4_device_36 : decode cX4_device 36 = .ok (.getfield 35, 3) := by decide +kernel
theorem dX4_device_39 : decode cX4_device 39 = .ok (.new 16, 3) := by decide +kernel
theorem dX4_device_42 : decode cX4_device 42 = .ok (.dup, 1) := by decide +kernel
theorem dX4_device_43 : decode cX4_device 43 = .ok (.iload_n 1, 1) := by decide +kernel
theorem dX4_device_44 : decode cX4_device 44 = .ok (.iload_n 2, 1) := by decide +kernel
theorem dX4_device_45 : decode cX4_device 45 = .ok (.invokespecial 38, 3) := by decide +kernel
theorem dX4_device_48 : decode cX4_device 48 = .ok (.aastore, 1) := by decide +kernel
theorem dX4_device_49 : decode cX4_device 49 = .ok (.aload_n 0, 1) := by decide +kernel
theorem dX4_device_50 : decode cX4_device 50 = .ok (.dup, 1) := by decide +kernel
theorem dX4_device_51 : decode cX4_device 51 = .ok (.getfield 35, 3) := by decide +kernel
theorem dX4_device_54 : decode cX4_device 54 = .ok (.iconst 1, 1) := by decide +kernel
theorem dX4_device_55 : decode cX4_device 55 = .ok (.iadd, 1) := by decide +kernel
theorem dX4_device_56 : decode cX4_device 56 = .ok (.putfield 35, 3) := by decide +kernel
theorem dX4_device_59 : decode cX4_device 59 = .ok (.aload_n 0, 1) := by decide +kernel
theorem dX4_device_60 : decode cX4_device 60 = .ok (.iconst 0, 1) := by decide +kernel
theorem dX4_device_61 : decode cX4_device 61 = .ok (.putfield 31, 3) := by decide +kernel
theorem dX4_device_64 : decode cX4_device 64 = .ok (.aload_n 0, 1) := by decide +kernel
theorem dX4_device_65 : decode cX4_device 65 = .ok (.getfield 35, 3) := by decide +kernel
theorem dX4_device_68 : decode cX4_device 68 = .ok (.iconst 1, 1) := by decide +kernel
theorem dX4_device_69 : decode cX4_device 69 = .ok (.isub, 1) := by decide +kernel
theorem dX4_device_70 : decode cX4_device 70 = .ok (.ireturn, 1) := by decide +kernel
theorem dX4_call_0 : decode cX4_call 0 = .ok (.aload_n 0, 1) := by decide +kernel
theorem dX4_call_1 : decode cX4_call 1 = .ok (.iload_n 1, 1) := by decide +kernel
theorem dX4_call_2 : decode cX4_call 2 = .ok (.invokevirtual 41, 3) := by decide +kernel
theorem dX4_call_5 : decode cX4_call 5 = .ok (.astore 5, 2) := by decide +kernel
theorem dX4_call_7 : decode cX4_call 7 = .ok (.aload_n 0, 1) := by decide +kernel
theorem dX4_call_8 : decode cX4_call 8 = .ok (.aload 5, 2) := by decide +kernel
theorem dX4_call_10 : decode cX4_call 10 = .ok (.iload_n 2, 1) := by decide +kernel
theorem dX4_call_11 : decode cX4_call 11 = .ok (.iload_n 3, 1) := by decide +kernel
theorem dX4_call_12 : decode cX4_call 12 = .ok (.invokestatic 45, 3) := by decide +kernel
theorem dX4_call_15 : decode cX4_call 15 = .ok (.putfield 31, 3) := by decide +kernel
theorem dX4_call_18 : decode cX4_call 18 = .ok (.aload 5, 2) := by decide +kernel
theorem dX4_call_20 : decode cX4_call 20 = .ok (.ifnull 10, 3) := by decide +kernel
theorem dX4_call_23 : decode cX4_call 23 = .ok (.aload_n 0, 1) := by decide +kernel
theorem dX4_call_24 : decode cX4_call 24 = .ok (.getfield 31, 3) := by decide +kernel
theorem dX4_call_27 : decode cX4_call 27 = .ok (.ifCond .eq 5, 3) := by decide +kernel
theorem dX4_call_30 : decode cX4_call 30 = .ok (.iconst 0, 1) := by decide +kernel
theorem dX4_call_31 : decode cX4_call 31 = .ok (.ireturn, 1) := by decide +kernel
theorem dX4_call_32 : decode cX4_call 32 = .ok (.aload_n 0, 1) := by decide +kernel
theorem dX4_call_33 : decode cX4_call 33 = .ok (.getfield 10, 3) := by decide +kernel
theorem dX4_call_36 : decode cX4_call 36 = .ok (.invokevirtual 49, 3) := by decide +kernel
theorem dX4_call_39 : decode cX4_call 39 = .ok (.aload_n 0, 1) := by decide +kernel
theorem dX4_call_40 : decode cX4_call 40 = .ok (.getfield 10, 3) := by decide +kernel
theorem dX4_call_43 : decode cX4_call 43 = .ok (.aload 5, 2) := by decide +kernel
theorem dX4_call_45 : decode cX4_call 45 = .ok (.iload_n 2, 1) := by decide +kernel
theorem dX4_call_46 : decode cX4_call 46 = .ok (.iload 4, 2) := by decide +kernel
theorem dX4_call_48 : decode cX4_call 48 = .ok (.iconst 0, 1) := by decide +kernel
theorem dX4_call_49 : decode cX4_call 49 = .ok (.invokevirtual 52, 3) := by decide +kernel
theorem dX4_call_52 : decode cX4_call 52 = .ok (.ireturn, 1) := by decide +kernel
theorem dX4_every_0 : decode cX4_every 0 = .ok (.aload_n 0, 1) := by decide +kernel
theorem dX4_every_1 : decode cX4_every 1 = .ok (.iload_n 1, 1) := by decide +kernel
theorem dX4_every_2 : decode cX4_every 2 = .ok (.iload_n 2, 1) := by decide +kernel
theorem dX4_every_3 : decode cX4_every 3 = .ok (.invokestatic 56, 3) := by decide +kernel
theorem dX4_every_6 : decode cX4_every 6 = .ok (.putfield 31, 3) := by decide +kernel
theorem dX4_every_9 : decode cX4_every 9 = .ok (.aload_n 0, 1) := by decide +kernel
theorem dX4_every_10 : decode cX4_every 10 = .ok (.getfield 31, 3) := by decide +kernel
theorem dX4_every_13 : decode cX4_every 13 = .ok (.ifCond .eq 5, 3) := by decide +kernel
theorem dX4_every_16 : decode cX4_every 16 = .ok (.iconst 0, 1) := by decide +kernel
theorem dX4_every_17 : decode cX4_every 17 = .ok (.ireturn, 1) := by decide +kernel
theorem dX4_every_18 : decode cX4_every 18 = .ok (.aload_n 0, 1) := by decide +kernel
theorem dX4_every_19 : decode cX4_every 19 = .ok (.getfield 10, 3) := by decide +kernel
theorem dX4_every_22 : decode cX4_every 22 = .ok (.invokevirtual 49, 3) := by decide +kernel
theorem dX4_every_25 : decode cX4_every 25 = .ok (.iconst 0, 1) := by decide +kernel
theorem dX4_every_26 : decode cX4_every 26 = .ok (.istore 4, 2) := by decide +kernel
theorem dX4_every_28 : decode cX4_every 28 = .ok (.iconst 0, 1) := by decide +kernel
theorem dX4_every_29 : decode cX4_every 29 = .ok (.istore 5, 2) := by decide +kernel
theorem dX4_every_31 : decode cX4_every 31 = .ok (.iload 5, 2) := by decide +kernel
theorem dX4_every_33 : decode cX4_every 33 = .ok (.aload_n 0, 1) := by decide +kernel
theorem dX4_every_34 : decode cX4_every 34 = .ok (.getfield 35, 3) := by decide +kernel
theorem dX4_every_37 : decode cX4_every 37 = .ok (.if_icmp .ge 67, 3) := by decide +kernel
theorem dX4_every_40 : decode cX4_every 40 = .ok (.iload 5, 2) := by decide +kernel
theorem dX4_every_42 : decode cX4_every 42 = .ok (.sipush 300, 3) := by decide +kernel
theorem dX4_every_45 : decode cX4_every 45 = .ok (.if_icmp .ge 59, 3) := by decide +kernel
theorem dX4_every_48 : decode cX4_every 48 = .ok (.aload_n 0, 1) := by decide +kernel
theorem dX4_every_49 : decode cX4_every 49 = .ok (.getfield 18, 3) := by decide +kernel
theorem dX4_every_52 : decode cX4_every 52 = .ok (.iload 5, 2) := by decide +kernel
theorem dX4_every_54 : decode cX4_every 54 = .ok (.aaload, 1) := by decide +kernel
theorem dX4_every_55 : decode cX4_every 55 = .ok (.astore 6, 2) := by decide +kernel
theorem dX4_every_57 : decode cX4_every 57 = .ok (.aload 6, 2) := by decide +kernel
theorem dX4_every_59 : decode cX4_every 59 = .ok (.ifnull 39, 3) := by decide +kernel
theorem dX4_every_62 : decode cX4_every 62 = .ok (.aload 6, 2) := by decide +kernel
theorem dX4_every_64 : decode cX4_every 64 = .ok (.iload_n 2, 1) := by decide +kernel
theorem dX4_every_65 : decode cX4_every 65 = .ok (.invokevirtual 60, 3) := by decide +kernel
theorem dX4_every_68 : decode cX4_every 68 = .ok (.ifCond .eq 30, 3) := by decide +kernel
theorem dX4_every_71 : decode cX4_every 71 = .ok (.aload 6, 2) := by decide +kernel
theorem dX4_every_73 : decode cX4_every 73 = .ok (.iload_n 1, 1) := by decide +kernel
theorem dX4_every_74 : decode cX4_every 74 = .ok (.iload_n 2, 1) := by decide +kernel
theorem dX4_every_75 : decode cX4_every 75 = .ok (.invokevirtual 63, 3) := by decide +kernel
theorem dX4_every_78 : decode cX4_every 78 = .ok (.ifCond .eq 20, 3) := by decide +kernel
theorem dX4_every_81 : decode cX4_every 81 = .ok (.iload 4, 2) := by decide +kernel
theorem dX4_every_83 : decode cX4_every 83 = .ok (.aload_n 0, 1) := by decide +kernel
theorem dX4_every_84 : decode cX4_every 84 = .ok (.getfield 10, 3) := by decide +kernel
theorem dX4_every_87 : decode cX4_every 87 = .ok (.aload 6, 2) := by decide +kernel
theorem dX4_every_89 : decode cX4_every 89 = .ok (.iload_n 1, 1) := by decide +kernel
theorem dX4_every_90 : decode cX4_every 90 = .ok (.iload_n 3, 1) := by decide +kernel
theorem dX4_every_91 : decode cX4_every 91 = .ok (.iconst 0, 1) := by decide +kernel
theorem dX4_every_92 : decode cX4_every 92 = .ok (.invokevirtual 52, 3) := by decide +kernel
theorem dX4_every_95 : decode cX4_every 95 = .ok (.iadd, 1) := by decide +kernel
theorem dX4_every_96 : decode cX4_every 96 = .ok (.istore 4, 2) := by decide +kernel
theorem dX4_every_98 : decode cX4_every 98 = .ok (.iinc 5 1, 3) := by decide +kernel
theorem dX4_every_101 : decode cX4_every 101 = .ok (.goto (-70), 3) := by decide +kernel
theorem dX4_every_104 : decode cX4_every 104 = .ok (.iload 4, 2) := by decide +kernel
theorem dX4_every_106 : decode cX4_every 106 = .ok (.ireturn, 1) := by decide +kernel
theorem dX4_feed_0 : decode cX4_feed 0 = .ok (.aload_n 0, 1) := by decide +kernel
theorem dX4_feed_1 : decode cX4_feed 1 = .ok (.iload_n 1, 1) := by decide +kernel
theorem dX4_feed_2 : decode cX4_feed 2 = .ok (.invokevirtual 41, 3) := by decide +kernel
theorem dX4_feed_5 : decode cX4_feed 5 = .ok (.astore_n 3, 1) := by decide +kernel
theorem dX4_feed_6 : decode cX4_feed 6 = .ok (.aload_n 3, 1) := by decide +kernel
theorem dX4_feed_7 : decode cX4_feed 7 = .ok (.ifnonnull 10, 3) := by decide +kernel
theorem dX4_feed_10 : decode cX4_feed 10 = .ok (.aload_n 0, 1) := by decide +kernel
theorem dX4_feed_11 : decode cX4_feed 11 = .ok (.iconst 1, 1) := by decide +kernel
theorem dX4_feed_12 : decode cX4_feed 12 = .ok (.putfield 31, 3) := by decide +kernel
theorem dX4_feed_15 : decode cX4_feed 15 = .ok (.iconst 0, 1) := by decide +kernel
theorem dX4_feed_16 : decode cX4_feed 16 = .ok (.ireturn, 1) := by decide +kernel
theorem dX4_feed_17 : decode cX4_feed 17 = .ok (.aload_n 0, 1) := by decide +kernel
theorem dX4_feed_18 : decode cX4_feed 18 = .ok (.iconst 0, 1) := by decide +kernel
theorem dX4_feed_19 : decode cX4_feed 19 = .ok (.putfield 31, 3) := by decide +kernel
theorem dX4_feed_22 : decode cX4_feed 22 = .ok (.aload_n 0, 1) := by decide +kernel
theorem dX4_feed_23 : decode cX4_feed 23 = .ok (.getfield 10, 3) := by decide +kernel
theorem dX4_feed_26 : decode cX4_feed 26 = .ok (.invokevirtual 49, 3) := by decide +kernel
theorem dX4_feed_29 : decode cX4_feed 29 = .ok (.iconst 0, 1) := by decide +kernel
theorem dX4_feed_30 : decode cX4_feed 30 = .ok (.istore 4, 2) := by decide +kernel
theorem dX4_feed_32 : decode cX4_feed 32 = .ok (.bipush 24, 2) := by decide +kernel
theorem dX4_feed_34 : decode cX4_feed 34 = .ok (.istore 5, 2) := by decide +kernel
theorem dX4_feed_36 : decode cX4_feed 36 = .ok (.iload 5, 2) := by decide +kernel
theorem dX4_feed_38 : decode cX4_feed 38 = .ok (.ifCond .lt 29, 3) := by decide +kernel
theorem dX4_feed_41 : decode cX4_feed 41 = .ok (.iload 4, 2) := by decide +kernel
theorem dX4_feed_43 : decode cX4_feed 43 = .ok (.aload_n 0, 1) := by decide +kernel
theorem dX4_feed_44 : decode cX4_feed 44 = .ok (.aload_n 3, 1) := by decide +kernel
theorem dX4_feed_45 : decode cX4_feed 45 = .ok (.iload_n 2, 1) := by decide +kernel
theorem dX4_feed_46 : decode cX4_feed 46 = .ok (.iload 5, 2) := by decide +kernel
theorem dX4_feed_48 : decode cX4_feed 48 = .ok (.iushr, 1) := by decide +kernel
theorem dX4_feed_49 : decode cX4_feed 49 = .ok (.sipush 255, 3) := by decide +kernel
theorem dX4_feed_52 : decode cX4_feed 52 = .ok (.iand, 1) := by decide +kernel
theorem dX4_feed_53 : decode cX4_feed 53 = .ok (.iload 4, 2) := by decide +kernel
theorem dX4_feed_55 : decode cX4_feed 55 = .ok (.invokevirtual 67, 3) := by decide +kernel
theorem dX4_feed_58 : decode cX4_feed 58 = .ok (.iadd, 1) := by decide +kernel
theorem dX4_feed_59 : decode cX4_feed 59 = .ok (.istore 4, 2) := by decide +kernel
theorem dX4_feed_61 : decode cX4_feed 61 = .ok (.iinc 5 (-8), 3) := by decide +kernel
theorem dX4_feed_64 : decode cX4_feed 64 = .ok (.goto (-28), 3) := by decide +kernel
theorem dX4_feed_67 : decode cX4_feed 67 = .ok (.iload 4, 2) := by decide +kernel
theorem dX4_feed_69 : decode cX4_feed 69 = .ok (.ireturn, 1) := by decide +kernel
theorem dX4_link_0 : decode cX4_link 0 = .ok (.aload_n 0, 1) := by decide +kernel
theorem dX4_link_1 : decode cX4_link 1 = .ok (.iload_n 1, 1) := by decide +kernel
theorem dX4_link_2 : decode cX4_link 2 = .ok (.invokevirtual 41, 3) := by decide +kernel
theorem dX4_link_5 : decode cX4_link 5 = .ok (.astore_n 3, 1) := by decide +kernel
theorem dX4_link_6 : decode cX4_link 6 = .ok (.aload_n 0, 1) := by decide +kernel
theorem dX4_link_7 : decode cX4_link 7 = .ok (.iload_n 2, 1) := by decide +kernel
theorem dX4_link_8 : decode cX4_link 8 = .ok (.invokevirtual 41, 3) := by decide +kernel
theorem dX4_link_11 : decode cX4_link 11 = .ok (.astore 4, 2) := by decide +kernel
theorem dX4_link_13 : decode cX4_link 13 = .ok (.aload_n 3, 1) := by decide +kernel
theorem dX4_link_14 : decode cX4_link 14 = .ok (.ifnull 8, 3) := by decide +kernel
theorem dX4_link_17 : decode cX4_link 17 = .ok (.aload 4, 2) := by decide +kernel
theorem dX4_link_19 : decode cX4_link 19 = .ok (.ifnonnull 10, 3) := by decide +kernel
theorem dX4_link_22 : decode cX4_link 22 = .ok (.aload_n 0, 1) := by decide +kernel
theorem dX4_link_23 : decode cX4_link 23 = .ok (.iconst 1, 1) := by decide +kernel
theorem dX4_link_24 : decode cX4_link 24 = .ok (.putfield 31, 3) := by decide +kernel
theorem dX4_link_27 : decode cX4_link 27 = .ok (.iconst (-1), 1) := by decide +kernel
theorem dX4_link_28 : decode cX4_link 28 = .ok (.ireturn, 1) := by decide +kernel
theorem dX4_link_29 : decode cX4_link 29 = .ok (.aload_n 0, 1) := by decide +kernel
theorem dX4_link_30 : decode cX4_link 30 = .ok (.getfield 70, 3) := by decide +kernel
theorem dX4_link_33 : decode cX4_link 33 = .ok (.sipush 400, 3) := by decide +kernel
theorem dX4_link_36 : decode cX4_link 36 = .ok (.if_icmp .lt 10, 3) := by decide +kernel
theorem dX4_link_39 : decode cX4_link 39 = .ok (.aload_n 0, 1) := by decide +kernel
theorem dX4_link_40 : decode cX4_link 40 = .ok (.iconst 5, 1) := by decide +kernel
theorem dX4_link_41 : decode cX4_link 41 = .ok (.putfield 31, 3) := by decide +kernel
theorem dX4_link_44 : decode cX4_link 44 = .ok (.iconst (-1), 1) := by decide +kernel
theorem dX4_link_45 : decode cX4_link 45 = .ok (.ireturn, 1) := by decide +kernel
theorem dX4_link_46 : decode cX4_link 46 = .ok (.aload_n 3, 1) := by decide +kernel
theorem dX4_link_47 : decode cX4_link 47 = .ok (.aload 4, 2) := by decide +kernel
theorem dX4_link_49 : decode cX4_link 49 = .ok (.invokevirtual 73, 3) := by decide +kernel
theorem dX4_link_52 : decode cX4_link 52 = .ok (.aload_n 0, 1) := by decide +kernel
theorem dX4_link_53 : decode cX4_link 53 = .ok (.dup, 1) := by decide +kernel
theorem dX4_link_54 : decode cX4_link 54 = .ok (.getfield 70, 3) := by decide +kernel
theorem dX4_link_57 : decode cX4_link 57 = .ok (.iconst 1, 1) := by decide +kernel
theorem dX4_link_58 : decode cX4_link 58 = .ok (.iadd, 1) := by decide +kernel
theorem dX4_link_59 : decode cX4_link 59 = .ok (.putfield 70, 3) := by decide +kernel
theorem dX4_link_62 : decode cX4_link 62 = .ok (.aload_n 0, 1) := by decide +kernel
theorem dX4_link_63 : decode cX4_link 63 = .ok (.iconst 0, 1) := by decide +kernel
theorem dX4_link_64 : decode cX4_link 64 = .ok (.putfield 31, 3) := by decide +kernel
theorem dX4_link_67 : decode cX4_link 67 = .ok (.aload_n 0, 1) := by decide +kernel
theorem dX4_link_68 : decode cX4_link 68 = .ok (.getfield 70, 3) := by decide +kernel
theorem dX4_link_71 : decode cX4_link 71 = .ok (.iconst 1, 1) := by decide +kernel
theorem dX4_link_72 : decode cX4_link 72 = .ok (.isub, 1) := by decide +kernel
theorem dX4_link_73 : decode cX4_link 73 = .ok (.ireturn, 1) := by decide +kernel
theorem dX4_pass_0 : decode cX4_pass 0 = .ok (.aload_n 0, 1) := by decide +kernel
theorem dX4_pass_1 : decode cX4_pass 1 = .ok (.iload_n 1, 1) := by decide +kernel
theorem dX4_pass_2 : decode cX4_pass 2 = .ok (.invokevirtual 41, 3) := by decide +kernel
theorem dX4_pass_5 : decode cX4_pass 5 = .ok (.astore_n 3, 1) := by decide +kernel
theorem dX4_pass_6 : decode cX4_pass 6 = .ok (.aload_n 3, 1) := by decide +kernel
theorem dX4_pass_7 : decode cX4_pass 7 = .ok (.ifnonnull 10, 3) := by decide +kernel
theorem dX4_pass_10 : decode cX4_pass 10 = .ok (.aload_n 0, 1) := by decide +kernel
theorem dX4_pass_11 : decode cX4_pass 11 = .ok (.iconst 1, 1) := by decide +kernel
theorem dX4_pass_12 : decode cX4_pass 12 = .ok (.putfield 31, 3) := by decide +kernel
theorem dX4_pass_15 : decode cX4_pass 15 = .ok (.iconst 0, 1) := by decide +kernel
theorem dX4_pass_16 : decode cX4_pass 16 = .ok (.ireturn, 1) := by decide +kernel
theorem dX4_pass_17 : decode cX4_pass 17 = .ok (.aload_n 0, 1) := by decide +kernel
theorem dX4_pass_18 : decode cX4_pass 18 = .ok (.iconst 0, 1) := by decide +kernel
theorem dX4_pass_19 : decode cX4_pass 19 = .ok (.putfield 31, 3) := by decide +kernel
theorem dX4_pass_22 : decode cX4_pass 22 = .ok (.aload_n 0, 1) := by decide +kernel
theorem dX4_pass_23 : decode cX4_pass 23 = .ok (.getfield 10, 3) := by decide +kernel
theorem dX4_pass_26 : decode cX4_pass 26 = .ok (.invokevirtual 49, 3) := by decide +kernel
theorem dX4_pass_29 : decode cX4_pass 29 = .ok (.aload_n 0, 1) := by decide +kernel
theorem dX4_pass_30 : decode cX4_pass 30 = .ok (.dup, 1) := by decide +kernel
theorem dX4_pass_31 : decode cX4_pass 31 = .ok (.getfield 77, 3) := by decide +kernel
theorem dX4_pass_34 : decode cX4_pass 34 = .ok (.iconst 1, 1) := by decide +kernel
theorem dX4_pass_35 : decode cX4_pass 35 = .ok (.iadd, 1) := by decide +kernel
theorem dX4_pass_36 : decode cX4_pass 36 = .ok (.putfield 77, 3) := by decide +kernel
theorem dX4_pass_39 : decode cX4_pass 39 = .ok (.aload_n 0, 1) := by decide +kernel
theorem dX4_pass_40 : decode cX4_pass 40 = .ok (.iconst 0, 1) := by decide +kernel
theorem dX4_pass_41 : decode cX4_pass 41 = .ok (.putfield 80, 3) := by decide +kernel
theorem dX4_pass_44 : decode cX4_pass 44 = .ok (.aload_n 0, 1) := by decide +kernel
theorem dX4_pass_45 : decode cX4_pass 45 = .ok (.aload_n 3, 1) := by decide +kernel
theorem dX4_pass_46 : decode cX4_pass 46 = .ok (.iload_n 2, 1) := by decide +kernel
theorem dX4_pass_47 : decode cX4_pass 47 = .ok (.invokevirtual 83, 3) := by decide +kernel
theorem dX4_pass_50 : decode cX4_pass 50 = .ok (.iconst 0, 1) := by decide +kernel
theorem dX4_pass_51 : decode cX4_pass 51 = .ok (.istore 4, 2) := by decide +kernel
theorem dX4_pass_53 : decode cX4_pass 53 = .ok (.iload 4, 2) := by decide +kernel
theorem dX4_pass_55 : decode cX4_pass 55 = .ok (.aload_n 0, 1) := by decide +kernel
theorem dX4_pass_56 : decode cX4_pass 56 = .ok (.getfield 80, 3) := by decide +kernel
theorem dX4_pass_59 : decode cX4_pass 59 = .ok (.if_icmp .ge 28, 3) := by decide +kernel
theorem dX4_pass_62 : decode cX4_pass 62 = .ok (.iload 4, 2) := by decide +kernel
theorem dX4_pass_64 : decode cX4_pass 64 = .ok (.sipush 300, 3) := by decide +kernel
theorem dX4_pass_67 : decode cX4_pass 67 = .ok (.if_icmp .ge 20, 3) := by decide +kernel
theorem dX4_pass_70 : decode cX4_pass 70 = .ok (.aload_n 0, 1) := by decide +kernel
theorem dX4_pass_71 : decode cX4_pass 71 = .ok (.aload_n 0, 1) := by decide +kernel
theorem dX4_pass_72 : decode cX4_pass 72 = .ok (.getfield 22, 3) := by decide +kernel
theorem dX4_pass_75 : decode cX4_pass 75 = .ok (.iload 4, 2) := by decide +kernel
theorem dX4_pass_77 : decode cX4_pass 77 = .ok (.aaload, 1) := by decide +kernel
theorem dX4_pass_78 : decode cX4_pass 78 = .ok (.invokevirtual 87, 3) := by decide +kernel
theorem dX4_pass_81 : decode cX4_pass 81 = .ok (.iinc 4 1, 3) := by decide +kernel
theorem dX4_pass_84 : decode cX4_pass 84 = .ok (.goto (-31), 3) := by decide +kernel
theorem dX4_pass_87 : decode cX4_pass 87 = .ok (.aload_n 0, 1) := by decide +kernel
theorem dX4_pass_88 : decode cX4_pass 88 = .ok (.getfield 80, 3) := by decide +kernel
theorem dX4_pass_91 : decode cX4_pass 91 = .ok (.ireturn, 1) := by decide +kernel
theorem dX4_able_0 : decode cX4_able 0 = .ok (.aload_n 0, 1) := by decide +kernel
theorem dX4_able_1 : decode cX4_able 1 = .ok (.iload_n 1, 1) := by decide +kernel
theorem dX4_able_2 : decode cX4_able 2 = .ok (.invokevirtual 41, 3) := by decide +kernel
theorem dX4_able_5 : decode cX4_able 5 = .ok (.astore_n 3, 1) := by decide +kernel
theorem dX4_able_6 : decode cX4_able 6 = .ok (.aload_n 3, 1) := by decide +kernel
theorem dX4_able_7 : decode cX4_able 7 = .ok (.ifnull 10, 3) := by decide +kernel
theorem dX4_able_10 : decode cX4_able 10 = .ok (.iload_n 2, 1) := by decide +kernel
theorem dX4_able_11 : decode cX4_able 11 = .ok (.invokestatic 90, 3) := by decide +kernel
theorem dX4_able_14 : decode cX4_able 14 = .ok (.ifCond .ne 5, 3) := by decide +kernel
theorem dX4_able_17 : decode cX4_able 17 = .ok (.iconst (-1), 1) := by decide +kernel
theorem dX4_able_18 : decode cX4_able 18 = .ok (.ireturn, 1) := by decide +kernel
theorem dX4_able_19 : decode cX4_able 19 = .ok (.aload_n 3, 1) := by decide +kernel
theorem dX4_able_20 : decode cX4_able 20 = .ok (.iload_n 2, 1) := by decide +kernel
theorem dX4_able_21 : decode cX4_able 21 = .ok (.invokevirtual 60, 3) := by decide +kernel
theorem dX4_able_24 : decode cX4_able 24 = .ok (.ifCond .eq 7, 3) := by decide +kernel
theorem dX4_able_27 : decode cX4_able 27 = .ok (.iconst 1, 1) := by decide +kernel
theorem dX4_able_28 : decode cX4_able 28 = .ok (.goto 4, 3) := by decide +kernel
theorem dX4_able_31 : decode cX4_able 31 = .ok (.iconst 0, 1) := by decide +kernel
theorem dX4_able_32 : decode cX4_able 32 = .ok (.ireturn, 1) := by decide +kernel
theorem dX4_chain_0 : decode cX4_chain 0 = .ok (.aload_n 0, 1) := by decide +kernel
theorem dX4_chain_1 : decode cX4_chain 1 = .ok (.getfield 10, 3) := by decide +kernel
theorem dX4_chain_4 : decode cX4_chain 4 = .ok (.iload_n 1, 1) := by decide +kernel
theorem dX4_chain_5 : decode cX4_chain 5 = .ok (.invokevirtual 93, 3) := by decide +kernel
theorem dX4_chain_8 : decode cX4_chain 8 = .ok (.ireturn, 1) := by decide +kernel
theorem dX4_ran_0 : decode cX4_ran 0 = .ok (.aload_n 0, 1) := by decide +kernel
theorem dX4_ran_1 : decode cX4_ran 1 = .ok (.getfield 10, 3) := by decide +kernel
theorem dX4_ran_4 : decode cX4_ran 4 = .ok (.getfield 97, 3) := by decide +kernel
theorem dX4_ran_7 : decode cX4_ran 7 = .ok (.ireturn, 1) := by decide +kernel
theorem dX4_state_0 : decode cX4_state 0 = .ok (.aload_n 0, 1) := by decide +kernel
theorem dX4_state_1 : decode cX4_state 1 = .ok (.iload_n 1, 1) := by decide +kernel
theorem dX4_state_2 : decode cX4_state 2 = .ok (.invokevirtual 41, 3) := by decide +kernel
theorem dX4_state_5 : decode cX4_state 5 = .ok (.astore_n 3, 1) := by decide +kernel
theorem dX4_state_6 : decode cX4_state 6 = .ok (.aload_n 3, 1) := by decide +kernel
theorem dX4_state_7 : decode cX4_state 7 = .ok (.ifnull 10, 3) := by decide +kernel
theorem dX4_state_10 : decode cX4_state 10 = .ok (.iload_n 2, 1) := by decide +kernel
theorem dX4_state_11 : decode cX4_state 11 = .ok (.invokestatic 100, 3) := by decide +kernel
theorem dX4_state_14 : decode cX4_state 14 = .ok (.ifCond .ne 10, 3) := by decide +kernel
theorem dX4_state_17 : decode cX4_state 17 = .ok (.aload_n 0, 1) := by decide +kernel
theorem dX4_state_18 : decode cX4_state 18 = .ok (.iconst 1, 1) := by decide +kernel
theorem dX4_state_19 : decode cX4_state 19 = .ok (.putfield 31, 3) := by decide +kernel
theorem dX4_state_22 : decode cX4_state 22 = .ok (.iconst 0, 1) := by decide +kernel
theorem dX4_state_23 : decode cX4_state 23 = .ok (.ireturn, 1) := by decide +kernel
theorem dX4_state_24 : decode cX4_state 24 = .ok (.aload_n 0, 1) := by decide +kernel
theorem dX4_state_25 : decode cX4_state 25 = .ok (.iconst 0, 1) := by decide +kernel
theorem dX4_state_26 : decode cX4_state 26 = .ok (.putfield 31, 3) := by decide +kernel
theorem dX4_state_29 : decode cX4_state 29 = .ok (.aload_n 3, 1) := by decide +kernel
theorem dX4_state_30 : decode cX4_state 30 = .ok (.iload_n 2, 1) := by decide +kernel
theorem dX4_state_31 : decode cX4_state 31 = .ok (.invokevirtual 103, 3) := by decide +kernel
theorem dX4_state_34 : decode cX4_state 34 = .ok (.ireturn, 1) := by decide +kernel
theorem dX4_size_0 : decode cX4_size 0 = .ok (.iload_n 1, 1) := by decide +kernel
theorem dX4_size_1 : decode cX4_size 1 = .ok (.ifCond .ne 8, 3) := by decide +kernel
theorem dX4_size_4 : decode cX4_size 4 = .ok (.aload_n 0, 1) := by decide +kernel
theorem dX4_size_5 : decode cX4_size 5 = .ok (.getfield 35, 3) := by decide +kernel
theorem dX4_size_8 : decode cX4_size 8 = .ok (.ireturn, 1) := by decide +kernel
theorem dX4_size_9 : decode cX4_size 9 = .ok (.iload_n 1, 1) := by decide +kernel
theorem dX4_size_10 : decode cX4_size 10 = .ok (.iconst 1, 1) := by decide +kernel
theorem dX4_size_11 : decode cX4_size 11 = .ok (.if_icmp .ne 8, 3) := by decide +kernel
theorem dX4_size_14 : decode cX4_size 14 = .ok (.aload_n 0, 1) := by decide +kernel
theorem dX4_size_15 : decode cX4_size 15 = .ok (.getfield 70, 3) := by decide +kernel
theorem dX4_size_18 : decode cX4_size 18 = .ok (.ireturn, 1) := by decide +kernel
theorem dX4_size_19 : decode cX4_size 19 = .ok (.iload_n 1, 1) := by decide +kernel
theorem dX4_size_20 : decode cX4_size 20 = .ok (.invokestatic 90, 3) := by decide +kernel
theorem dX4_size_23 : decode cX4_size 23 = .ok (.ifCond .eq 11, 3) := by decide +kernel
theorem dX4_size_26 : decode cX4_size 26 = .ok (.aload_n 0, 1) := by decide +kernel
theorem dX4_size_27 : decode cX4_size 27 = .ok (.iload_n 1, 1) := by decide +kernel
theorem dX4_size_28 : decode cX4_size 28 = .ok (.invokevirtual 106, 3) := by decide +kernel
theorem dX4_size_31 : decode cX4_size 31 = .ok (.goto 4, 3) := by decide +kernel
theorem dX4_size_34 : decode cX4_size 34 = .ok (.iconst (-1), 1) := by decide +kernel
theorem dX4_size_35 : decode cX4_size 35 = .ok (.ireturn, 1) := by decide +kernel
theorem dX4_status_0 : decode cX4_status 0 = .ok (.aload_n 0, 1) := by decide +kernel
theorem dX4_status_1 : decode cX4_status 1 = .ok (.getfield 31, 3) := by decide +kernel
theorem dX4_status_4 : decode cX4_status 4 = .ok (.ireturn, 1) := by decide +kernel
theorem dX4_find_0 : decode cX4_find 0 = .ok (.iload_n 1, 1) := by decide +kernel
theorem dX4_find_1 : decode cX4_find 1 = .ok (.ifCond .lt 18, 3) := by decide +kernel
theorem dX4_find_4 : decode cX4_find 4 = .ok (.iload_n 1, 1) := by decide +kernel
theorem dX4_find_5 : decode cX4_find 5 = .ok (.aload_n 0, 1) := by decide +kernel
theorem dX4_find_6 : decode cX4_find 6 = .ok (.getfield 35, 3) := by decide +kernel
theorem dX4_find_9 : decode cX4_find 9 = .ok (.if_icmp .ge 10, 3) := by decide +kernel
theorem dX4_find_12 : decode cX4_find 12 = .ok (.iload_n 1, 1) := by decide +kernel
theorem dX4_find_13 : decode cX4_find 13 = .ok (.sipush 300, 3) := by decide +kernel
theorem dX4_find_16 : decode cX4_find 16 = .ok (.if_icmp .lt 5, 3) := by decide +kernel
theorem dX4_find_19 : decode cX4_find 19 = .ok (.aconst_null, 1) := by decide +kernel
theorem dX4_find_20 : decode cX4_find 20 = .ok (.areturn, 1) := by decide +kernel
theorem dX4_find_21 : decode cX4_find 21 = .ok (.aload_n 0, 1) := by decide +kernel
theorem dX4_find_22 : decode cX4_find 22 = .ok (.getfield 18, 3) := by decide +kernel
theorem dX4_find_25 : decode cX4_find 25 = .ok (.iload_n 1, 1) := by decide +kernel
theorem dX4_find_26 : decode cX4_find 26 = .ok (.aaload, 1) := by decide +kernel
theorem dX4_find_27 : decode cX4_find 27 = .ok (.areturn, 1) := by decide +kernel
theorem dX4_refusal_0 : decode cX4_refusal 0 = .ok (.aload_n 0, 1) := by decide +kernel
theorem dX4_refusal_1 : decode cX4_refusal 1 = .ok (.ifnull 17, 3) := by decide +kernel
theorem dX4_refusal_4 : decode cX4_refusal 4 = .ok (.iload_n 1, 1) := by decide +kernel
theorem dX4_refusal_5 : decode cX4_refusal 5 = .ok (.invokestatic 109, 3) := by decide +kernel
theorem dX4_refusal_8 : decode cX4_refusal 8 = .ok (.ifCond .eq 10, 3) := by decide +kernel
theorem dX4_refusal_11 : decode cX4_refusal 11 = .ok (.iload_n 2, 1) := by decide +kernel
theorem dX4_refusal_12 : decode cX4_refusal 12 = .ok (.invokestatic 90, 3) := by decide +kernel
theorem dX4_refusal_15 : decode cX4_refusal 15 = .ok (.ifCond .ne 5, 3) := by decide +kernel
theorem dX4_refusal_18 : decode cX4_refusal 18 = .ok (.iconst 1, 1) := by decide +kernel
theorem dX4_refusal_19 : decode cX4_refusal 19 = .ok (.ireturn, 1) := by decide +kernel
theorem dX4_refusal_20 : decode cX4_refusal 20 = .ok (.aload_n 0, 1) := by decide +kernel
theorem dX4_refusal_21 : decode cX4_refusal 21 = .ok (.iload_n 2, 1) := by decide +kernel
theorem dX4_refusal_22 : decode cX4_refusal 22 = .ok (.invokevirtual 60, 3) := by decide +kernel
theorem dX4_refusal_25 : decode cX4_refusal 25 = .ok (.ifCond .ne 5, 3) := by decide +kernel
theorem dX4_refusal_28 : decode cX4_refusal 28 = .ok (.iconst 2, 1) := by decide +kernel
theorem dX4_refusal_29 : decode cX4_refusal 29 = .ok (.ireturn, 1) := by decide +kernel
theorem dX4_refusal_30 : decode cX4_refusal 30 = .ok (.aload_n 0, 1) := by decide +kernel
theorem dX4_refusal_31 : decode cX4_refusal 31 = .ok (.iload_n 1, 1) := by decide +kernel
theorem dX4_refusal_32 : decode cX4_refusal 32 = .ok (.iload_n 2, 1) := by decide +kernel
theorem dX4_refusal_33 : decode cX4_refusal 33 = .ok (.invokevirtual 63, 3) := by decide +kernel
theorem dX4_refusal_36 : decode cX4_refusal 36 = .ok (.ifCond .eq 7, 3) := by decide +kernel
theorem dX4_refusal_39 : decode cX4_refusal 39 = .ok (.iconst 0, 1) := by decide +kernel
theorem dX4_refusal_40 : decode cX4_refusal 40 = .ok (.goto 4, 3) := by decide +kernel
theorem dX4_refusal_43 : decode cX4_refusal 43 = .ok (.iconst 3, 1) := by decide +kernel
theorem dX4_refusal_44 : decode cX4_refusal 44 = .ok (.ireturn, 1) := by decide +kernel
theorem dX4_refusalOfEvery_0 : decode cX4_refusalOfEvery 0 = .ok (.iload_n 0, 1) := by decide +kernel
theorem dX4_refusalOfEvery_1 : decode cX4_refusalOfEvery 1 = .ok (.invokestatic 109, 3) := by decide +kernel
theorem dX4_refusalOfEvery_4 : decode cX4_refusalOfEvery 4 = .ok (.ifCond .eq 10, 3) := by decide +kernel
theorem dX4_refusalOfEvery_7 : decode cX4_refusalOfEvery 7 = .ok (.iload_n 1, 1) := by decide +kernel
theorem dX4_refusalOfEvery_8 : decode cX4_refusalOfEvery 8 = .ok (.invokestatic 90, 3) := by decide +kernel
theorem dX4_refusalOfEvery_11 : decode cX4_refusalOfEvery 11 = .ok (.ifCond .ne 5, 3) := by decide +kernel
theorem dX4_refusalOfEvery_14 : decode cX4_refusalOfEvery 14 = .ok (.iconst 1, 1) := by decide +kernel
theorem dX4_refusalOfEvery_15 : decode cX4_refusalOfEvery 15 = .ok (.ireturn, 1) := by decide +kernel
theorem dX4_refusalOfEvery_16 : decode cX4_refusalOfEvery 16 = .ok (.iload_n 1, 1) := by decide +kernel
theorem dX4_refusalOfEvery_17 : decode cX4_refusalOfEvery 17 = .ok (.ifCond .eq 14, 3) := by decide +kernel
theorem dX4_refusalOfEvery_20 : decode cX4_refusalOfEvery 20 = .ok (.iload_n 1, 1) := by decide +kernel
theorem dX4_refusalOfEvery_21 : decode cX4_refusalOfEvery 21 = .ok (.invokestatic 112, 3) := by decide +kernel
theorem dX4_refusalOfEvery_24 : decode cX4_refusalOfEvery 24 = .ok (.iload_n 0, 1) := by decide +kernel
theorem dX4_refusalOfEvery_25 : decode cX4_refusalOfEvery 25 = .ok (.invokestatic 115, 3) := by decide +kernel
theorem dX4_refusalOfEvery_28 : decode cX4_refusalOfEvery 28 = .ok (.ifCond .eq 5, 3) := by decide +kernel
theorem dX4_refusalOfEvery_31 : decode cX4_refusalOfEvery 31 = .ok (.iconst 0, 1) := by decide +kernel
theorem dX4_refusalOfEvery_32 : decode cX4_refusalOfEvery 32 = .ok (.ireturn, 1) := by decide +kernel
theorem dX4_refusalOfEvery_33 : decode cX4_refusalOfEvery 33 = .ok (.iconst 3, 1) := by decide +kernel
theorem dX4_refusalOfEvery_34 : decode cX4_refusalOfEvery 34 = .ok (.ireturn, 1) := by decide +kernel
theorem dX4_answerToByte_0 : decode cX4_answerToByte 0 = .ok (.iload_n 2, 1) := by decide +kernel
theorem dX4_answerToByte_1 : decode cX4_answerToByte 1 = .ok (.bipush 15, 2) := by decide +kernel
theorem dX4_answerToByte_3 : decode cX4_answerToByte 3 = .ok (.iand, 1) := by decide +kernel
theorem dX4_answerToByte_4 : decode cX4_answerToByte 4 = .ok (.istore 4, 2) := by decide +kernel
theorem dX4_answerToByte_6 : decode cX4_answerToByte 6 = .ok (.iload_n 2, 1) := by decide +kernel
theorem dX4_answerToByte_7 : decode cX4_answerToByte 7 = .ok (.iconst 4, 1) := by decide +kernel
theorem dX4_answerToByte_8 : decode cX4_answerToByte 8 = .ok (.iushr, 1) := by decide +kernel
theorem dX4_answerToByte_9 : decode cX4_answerToByte 9 = .ok (.bipush 7, 2) := by decide +kernel
theorem dX4_answerToByte_11 : decode cX4_answerToByte 11 = .ok (.iand, 1) := by decide +kernel
theorem dX4_answerToByte_12 : decode cX4_answerToByte 12 = .ok (.istore 5, 2) := by decide +kernel
theorem dX4_answerToByte_14 : decode cX4_answerToByte 14 = .ok (.iload_n 2, 1) := by decide +kernel
theorem dX4_answerToByte_15 : decode cX4_answerToByte 15 = .ok (.sipush 128, 3) := by decide +kernel
theorem dX4_answerToByte_18 : decode cX4_answerToByte 18 = .ok (.iand, 1) := by decide +kernel
theorem dX4_answerToByte_19 : decode cX4_answerToByte 19 = .ok (.ifCond .ne 7, 3) := by decide +kernel
theorem dX4_answerToByte_22 : decode cX4_answerToByte 22 = .ok (.iload_n 3, 1) := by decide +kernel
theorem dX4_answerToByte_23 : decode cX4_answerToByte 23 = .ok (.goto 6, 3) := by decide +kernel
theorem dX4_answerToByte_26 : decode cX4_answerToByte 26 = .ok (.iconst 0, 1) := by decide +kernel
theorem dX4_answerToByte_27 : decode cX4_answerToByte 27 = .ok (.iload_n 3, 1) := by decide +kernel
theorem dX4_answerToByte_28 : decode cX4_answerToByte 28 = .ok (.isub, 1) := by decide +kernel
theorem dX4_answerToByte_29 : decode cX4_answerToByte 29 = .ok (.istore 6, 2) := by decide +kernel
theorem dX4_answerToByte_31 : decode cX4_answerToByte 31 = .ok (.aload_n 1, 1) := by decide +kernel
theorem dX4_answerToByte_32 : decode cX4_answerToByte 32 = .ok (.iload 4, 2) := by decide +kernel
theorem dX4_answerToByte_34 : decode cX4_answerToByte 34 = .ok (.iload 5, 2) := by decide +kernel
theorem dX4_answerToByte_36 : decode cX4_answerToByte 36 = .ok (.invokestatic 45, 3) := by decide +kernel
theorem dX4_answerToByte_39 : decode cX4_answerToByte 39 = .ok (.ifCond .ne 19, 3) := by decide +kernel
theorem dX4_answerToByte_42 : decode cX4_answerToByte 42 = .ok (.aload_n 0, 1) := by decide +kernel
theorem dX4_answerToByte_43 : decode cX4_answerToByte 43 = .ok (.getfield 10, 3) := by decide +kernel
theorem dX4_answerToByte_46 : decode cX4_answerToByte 46 = .ok (.aload_n 1, 1) := by decide +kernel
theorem dX4_answerToByte_47 : decode cX4_answerToByte 47 = .ok (.iload 4, 2) := by decide +kernel
theorem dX4_answerToByte_49 : decode cX4_answerToByte 49 = .ok (.iload 6, 2) := by decide +kernel
theorem dX4_answerToByte_51 : decode cX4_answerToByte 51 = .ok (.iconst 0, 1) := by decide +kernel
theorem dX4_answerToByte_52 : decode cX4_answerToByte 52 = .ok (.invokevirtual 52, 3) := by decide +kernel
theorem dX4_answerToByte_55 : decode cX4_answerToByte 55 = .ok (.goto 4, 3) := by decide +kernel
theorem dX4_answerToByte_58 : decode cX4_answerToByte 58 = .ok (.iconst 0, 1) := by decide +kernel
theorem dX4_answerToByte_59 : decode cX4_answerToByte 59 = .ok (.ireturn, 1) := by decide +kernel
theorem dX4_letTake_0 : decode cX4_letTake 0 = .ok (.aload_n 0, 1) := by decide +kernel
theorem dX4_letTake_1 : decode cX4_letTake 1 = .ok (.getfield 80, 3) := by decide +kernel
theorem dX4_letTake_4 : decode cX4_letTake 4 = .ok (.sipush 300, 3) := by decide +kernel
theorem dX4_letTake_7 : decode cX4_letTake 7 = .ok (.if_icmp .lt 4, 3) := by decide +kernel
theorem dX4_letTake_10 : decode cX4_letTake 10 = .ok (.return_, 1) := by decide +kernel
theorem dX4_letTake_11 : decode cX4_letTake 11 = .ok (.aload_n 0, 1) := by decide +kernel
theorem dX4_letTake_12 : decode cX4_letTake 12 = .ok (.getfield 22, 3) := by decide +kernel
theorem dX4_letTake_15 : decode cX4_letTake 15 = .ok (.aload_n 0, 1) := by decide +kernel
theorem dX4_letTake_16 : decode cX4_letTake 16 = .ok (.getfield 80, 3) := by decide +kernel
theorem dX4_letTake_19 : decode cX4_letTake 19 = .ok (.aload_n 1, 1) := by decide +kernel
theorem dX4_letTake_20 : decode cX4_letTake 20 = .ok (.aastore, 1) := by decide +kernel
theorem dX4_letTake_21 : decode cX4_letTake 21 = .ok (.aload_n 0, 1) := by decide +kernel
theorem dX4_letTake_22 : decode cX4_letTake 22 = .ok (.dup, 1) := by decide +kernel
theorem dX4_letTake_23 : decode cX4_letTake 23 = .ok (.getfield 80, 3) := by decide +kernel
theorem dX4_letTake_26 : decode cX4_letTake 26 = .ok (.iconst 1, 1) := by decide +kernel
theorem dX4_letTake_27 : decode cX4_letTake 27 = .ok (.iadd, 1) := by decide +kernel
theorem dX4_letTake_28 : decode cX4_letTake 28 = .ok (.putfield 80, 3) := by decide +kernel
theorem dX4_letTake_31 : decode cX4_letTake 31 = .ok (.aload_n 1, 1) := by decide +kernel
theorem dX4_letTake_32 : decode cX4_letTake 32 = .ok (.aload_n 0, 1) := by decide +kernel
theorem dX4_letTake_33 : decode cX4_letTake 33 = .ok (.getfield 77, 3) := by decide +kernel
theorem dX4_letTake_36 : decode cX4_letTake 36 = .ok (.putfield 118, 3) := by decide +kernel
theorem dX4_letTake_39 : decode cX4_letTake 39 = .ok (.aload_n 1, 1) := by decide +kernel
theorem dX4_letTake_40 : decode cX4_letTake 40 = .ok (.dup, 1) := by decide +kernel
theorem dX4_letTake_41 : decode cX4_letTake 41 = .ok (.getfield 119, 3) := by decide +kernel
theorem dX4_letTake_44 : decode cX4_letTake 44 = .ok (.iconst 1, 1) := by decide +kernel
theorem dX4_letTake_45 : decode cX4_letTake 45 = .ok (.iadd, 1) := by decide +kernel
theorem dX4_letTake_46 : decode cX4_letTake 46 = .ok (.putfield 119, 3) := by decide +kernel
theorem dX4_letTake_49 : decode cX4_letTake 49 = .ok (.aload_n 1, 1) := by decide +kernel
theorem dX4_letTake_50 : decode cX4_letTake 50 = .ok (.aload_n 0, 1) := by decide +kernel
theorem dX4_letTake_51 : decode cX4_letTake 51 = .ok (.getfield 10, 3) := by decide +kernel
theorem dX4_letTake_54 : decode cX4_letTake 54 = .ok (.aload_n 1, 1) := by decide +kernel
theorem dX4_letTake_55 : decode cX4_letTake 55 = .ok (.aload_n 1, 1) := by decide +kernel
theorem dX4_letTake_56 : decode cX4_letTake 56 = .ok (.invokevirtual 122, 3) := by decide +kernel
theorem dX4_letTake_59 : decode cX4_letTake 59 = .ok (.iload_n 2, 1) := by decide +kernel
theorem dX4_letTake_60 : decode cX4_letTake 60 = .ok (.iconst 0, 1) := by decide +kernel
theorem dX4_letTake_61 : decode cX4_letTake 61 = .ok (.invokevirtual 52, 3) := by decide +kernel
theorem dX4_letTake_64 : decode cX4_letTake 64 = .ok (.putfield 126, 3) := by decide +kernel
theorem dX4_letTake_67 : decode cX4_letTake 67 = .ok (.return_, 1) := by decide +kernel
theorem dX4_handOn_0 : decode cX4_handOn 0 = .ok (.aload_n 1, 1) := by decide +kernel
theorem dX4_handOn_1 : decode cX4_handOn 1 = .ok (.ifnonnull 4, 3) := by decide +kernel
theorem dX4_handOn_4 : decode cX4_handOn 4 = .ok (.return_, 1) := by decide +kernel
theorem dX4_handOn_5 : decode cX4_handOn 5 = .ok (.aload_n 1, 1) := by decide +kernel
theorem dX4_handOn_6 : decode cX4_handOn 6 = .ok (.getfield 129, 3) := by decide +kernel
theorem dX4_handOn_9 : decode cX4_handOn 9 = .ok (.astore_n 2, 1) := by decide +kernel
theorem dX4_handOn_10 : decode cX4_handOn 10 = .ok (.aload_n 2, 1) := by decide +kernel
theorem dX4_handOn_11 : decode cX4_handOn 11 = .ok (.ifnull 37, 3) := by decide +kernel
theorem dX4_handOn_14 : decode cX4_handOn 14 = .ok (.aload_n 2, 1) := by decide +kernel
theorem dX4_handOn_15 : decode cX4_handOn 15 = .ok (.getfield 133, 3) := by decide +kernel
theorem dX4_handOn_18 : decode cX4_handOn 18 = .ok (.getfield 118, 3) := by decide +kernel
theorem dX4_handOn_21 : decode cX4_handOn 21 = .ok (.aload_n 0, 1) := by decide +kernel
theorem dX4_handOn_22 : decode cX4_handOn 22 = .ok (.getfield 77, 3) := by decide +kernel
theorem dX4_handOn_25 : decode cX4_handOn 25 = .ok (.if_icmp .eq 15, 3) := by decide +kernel
theorem dX4_handOn_28 : decode cX4_handOn 28 = .ok (.aload_n 0, 1) := by decide +kernel
theorem dX4_handOn_29 : decode cX4_handOn 29 = .ok (.aload_n 2, 1) := by decide +kernel
theorem dX4_handOn_30 : decode cX4_handOn 30 = .ok (.getfield 133, 3) := by decide +kernel
theorem dX4_handOn_33 : decode cX4_handOn 33 = .ok (.aload_n 1, 1) := by decide +kernel
theorem dX4_handOn_34 : decode cX4_handOn 34 = .ok (.getfield 126, 3) := by decide +kernel
theorem dX4_handOn_37 : decode cX4_handOn 37 = .ok (.invokevirtual 83, 3) := by decide +kernel
theorem dX4_handOn_40 : decode cX4_handOn 40 = .ok (.aload_n 2, 1) := by decide +kernel
theorem dX4_handOn_41 : decode cX4_handOn 41 = .ok (.getfield 139, 3) := by decide +kernel
theorem dX4_handOn_44 : decode cX4_handOn 44 = .ok (.astore_n 2, 1) := by decide +kernel
theorem dX4_handOn_45 : decode cX4_handOn 45 = .ok (.goto (-35), 3) := by decide +kernel
theorem dX4_handOn_48 : decode cX4_handOn 48 = .ok (.return_, 1) := by decide +kernel
theorem dX4_countBearersOf_0 : decode cX4_countBearersOf 0 = .ok (.iconst 0, 1) := by decide +kernel
theorem dX4_countBearersOf_1 : decode cX4_countBearersOf 1 = .ok (.istore_n 2, 1) := by decide +kernel
theorem dX4_countBearersOf_2 : decode cX4_countBearersOf 2 = .ok (.iconst 0, 1) := by decide +kernel
theorem dX4_countBearersOf_3 : decode cX4_countBearersOf 3 = .ok (.istore_n 3, 1) := by decide +kernel
theorem dX4_countBearersOf_4 : decode cX4_countBearersOf 4 = .ok (.iload_n 3, 1) := by decide +kernel
theorem dX4_countBearersOf_5 : decode cX4_countBearersOf 5 = .ok (.aload_n 0, 1) := by decide +kernel
theorem dX4_countBearersOf_6 : decode cX4_countBearersOf 6 = .ok (.getfield 35, 3) := by decide +kernel
theorem dX4_countBearersOf_9 : decode cX4_countBearersOf 9 = .ok (.if_icmp .ge 41, 3) := by decide +kernel
theorem dX4_countBearersOf_12 : decode cX4_countBearersOf 12 = .ok (.iload_n 3, 1) := by decide +kernel
theorem dX4_countBearersOf_13 : decode cX4_countBearersOf 13 = .ok (.sipush 300, 3) := by decide +kernel
theorem dX4_countBearersOf_16 : decode cX4_countBearersOf 16 = .ok (.if_icmp .ge 34, 3) := by decide +kernel
theorem dX4_countBearersOf_19 : decode cX4_countBearersOf 19 = .ok (.aload_n 0, 1) := by decide +kernel
theorem dX4_countBearersOf_20 : decode cX4_countBearersOf 20 = .ok (.getfield 18, 3) := by decide +kernel
theorem dX4_countBearersOf_23 : decode cX4_countBearersOf 23 = .ok (.iload_n 3, 1) := by decide +kernel
theorem dX4_countBearersOf_24 : decode cX4_countBearersOf 24 = .ok (.aaload, 1) := by decide +kernel
theorem dX4_countBearersOf_25 : decode cX4_countBearersOf 25 = .ok (.astore 4, 2) := by decide +kernel
theorem dX4_countBearersOf_27 : decode cX4_countBearersOf 27 = .ok (.aload 4, 2) := by decide +kernel
theorem dX4_countBearersOf_29 : decode cX4_countBearersOf 29 = .ok (.ifnull 15, 3) := by decide +kernel
theorem dX4_countBearersOf_32 : decode cX4_countBearersOf 32 = .ok (.aload 4, 2) := by decide +kernel
theorem dX4_countBearersOf_34 : decode cX4_countBearersOf 34 = .ok (.iload_n 1, 1) := by decide +kernel
theorem dX4_countBearersOf_35 : decode cX4_countBearersOf 35 = .ok (.invokevirtual 60, 3) := by decide +kernel
theorem dX4_countBearersOf_38 : decode cX4_countBearersOf 38 = .ok (.ifCond .eq 6, 3) := by decide +kernel
theorem dX4_countBearersOf_41 : decode cX4_countBearersOf 41 = .ok (.iinc 2 1, 3) := by decide +kernel
theorem dX4_countBearersOf_44 : decode cX4_countBearersOf 44 = .ok (.iinc 3 1, 3) := by decide +kernel
theorem dX4_countBearersOf_47 : decode cX4_countBearersOf 47 = .ok (.goto (-43), 3) := by decide +kernel
theorem dX4_countBearersOf_50 : decode cX4_countBearersOf 50 = .ok (.iload_n 2, 1) := by decide +kernel
theorem dX4_countBearersOf_51 : decode cX4_countBearersOf 51 = .ok (.ireturn, 1) := by decide +kernel
end
section
theorem dX5_bit_0 : decode cX5_bit 0 = .ok (.iconst 1, 1) := by decide +kernel
theorem dX5_bit_1 : decode cX5_bit 1 = .ok (.iload_n 0, 1) := by decide +kernel
theorem dX5_bit_2 : decode cX5_bit 2 = .ok (.ishl, 1) := by decide +kernel
theorem dX5_bit_3 : decode cX5_bit 3 = .ok (.ireturn, 1) := by decide +kernel
theorem dX5_have_0 : decode cX5_have 0 = .ok (.aload_n 0, 1) := by decide +kernel
theorem dX5_have_1 : decode cX5_have 1 = .ok (.getfield 22, 3) := by decide +kernel
theorem dX5_have_4 : decode cX5_have 4 = .ok (.iload_n 1, 1) := by decide +kernel
theorem dX5_have_5 : decode cX5_have 5 = .ok (.bipush 12, 2) := by decide +kernel
theorem dX5_have_7 : decode cX5_have 7 = .ok (.imul, 1) := by decide +kernel
theorem dX5_have_8 : decode cX5_have 8 = .ok (.iload_n 2, 1) := by decide +kernel
theorem dX5_have_9 : decode cX5_have 9 = .ok (.iadd, 1) := by decide +kernel
theorem dX5_have_10 : decode cX5_have 10 = .ok (.iload_n 3, 1) := by decide +kernel
theorem dX5_have_11 : decode cX5_have 11 = .ok (.iastore, 1) := by decide +kernel
theorem dX5_have_12 : decode cX5_have 12 = .ok (.return_, 1) := by decide +kernel
theorem dX5_closed_0 : decode cX5_closed 0 = .ok (.iload_n 0, 1) := by decide +kernel
theorem dX5_closed_1 : decode cX5_closed 1 = .ok (.istore_n 1, 1) := by decide +kernel
theorem dX5_closed_2 : decode cX5_closed 2 = .ok (.iload_n 1, 1) := by decide +kernel
theorem dX5_closed_3 : decode cX5_closed 3 = .ok (.iconst 3, 1) := by decide +kernel
theorem dX5_closed_4 : decode cX5_closed 4 = .ok (.invokestatic 84, 3) := by decide +kernel
theorem dX5_closed_7 : decode cX5_closed 7 = .ok (.iand, 1) := by decide +kernel
theorem dX5_closed_8 : decode cX5_closed 8 = .ok (.ifCond .eq 15, 3) := by decide +kernel
theorem dX5_closed_11 : decode cX5_closed 11 = .ok (.iload_n 1, 1) := by decide +kernel
theorem dX5_closed_12 : decode cX5_closed 12 = .ok (.iconst 1, 1) := by decide +kernel
theorem dX5_closed_13 : decode cX5_closed 13 = .ok (.invokestatic 84, 3) := by decide +kernel
theorem dX5_closed_16 : decode cX5_closed 16 = .ok (.iconst 2, 1) := by decide +kernel
theorem dX5_closed_17 : decode cX5_closed 17 = .ok (.invokestatic 84, 3) := by decide +kernel
theorem dX5_closed_20 : decode cX5_closed 20 = .ok (.ior, 1) := by decide +kernel
theorem dX5_closed_21 : decode cX5_closed 21 = .ok (.ior, 1) := by decide +kernel
theorem dX5_closed_22 : decode cX5_closed 22 = .ok (.istore_n 1, 1) := by decide +kernel
theorem dX5_closed_23 : decode cX5_closed 23 = .ok (.iload_n 1, 1) := by decide +kernel
theorem dX5_closed_24 : decode cX5_closed 24 = .ok (.iconst 5, 1) := by decide +kernel
theorem dX5_closed_25 : decode cX5_closed 25 = .ok (.invokestatic 84, 3) := by decide +kernel
theorem dX5_closed_28 : decode cX5_closed 28 = .ok (.iand, 1) := by decide +kernel
theorem dX5_closed_29 : decode cX5_closed 29 = .ok (.ifCond .eq 10, 3) := by decide +kernel
theorem dX5_closed_32 : decode cX5_closed 32 = .ok (.iload_n 1, 1) := by decide +kernel
theorem dX5_closed_33 : decode cX5_closed 33 = .ok (.iconst 4, 1) := by decide +kernel
theorem dX5_closed_34 : decode cX5_closed 34 = .ok (.invokestatic 84, 3) := by decide +kernel
theorem dX5_closed_37 : decode cX5_closed 37 = .ok (.ior, 1) := by decide +kernel
theorem dX5_closed_38 : decode cX5_closed 38 = .ok (.istore_n 1, 1) := by decide +kernel
theorem dX5_closed_39 : decode cX5_closed 39 = .ok (.iload_n 1, 1) := by decide +kernel
theorem dX5_closed_40 : decode cX5_closed 40 = .ok (.ireturn, 1) := by decide +kernel
theorem dX5_heir_0 : decode cX5_heir 0 = .ok (.aload_n 0, 1) := by decide +kernel
theorem dX5_heir_1 : decode cX5_heir 1 = .ok (.getfield 16, 3) := by decide +kernel
theorem dX5_heir_4 : decode cX5_heir 4 = .ok (.iload_n 1, 1) := by decide +kernel
theorem dX5_heir_5 : decode cX5_heir 5 = .ok (.iload_n 2, 1) := by decide +kernel
theorem dX5_heir_6 : decode cX5_heir 6 = .ok (.iastore, 1) := by decide +kernel
theorem dX5_heir_7 : decode cX5_heir 7 = .ok (.aload_n 0, 1) := by decide +kernel
theorem dX5_heir_8 : decode cX5_heir 8 = .ok (.getfield 19, 3) := by decide +kernel
theorem dX5_heir_11 : decode cX5_heir 11 = .ok (.iload_n 1, 1) := by decide +kernel
theorem dX5_heir_12 : decode cX5_heir 12 = .ok (.aload_n 0, 1) := by decide +kernel
theorem dX5_heir_13 : decode cX5_heir 13 = .ok (.getfield 19, 3) := by decide +kernel
theorem dX5_heir_16 : decode cX5_heir 16 = .ok (.iload_n 2, 1) := by decide +kernel
theorem dX5_heir_17 : decode cX5_heir 17 = .ok (.iaload, 1) := by decide +kernel
theorem dX5_heir_18 : decode cX5_heir 18 = .ok (.iload_n 3, 1) := by decide +kernel
theorem dX5_heir_19 : decode cX5_heir 19 = .ok (.invokestatic 88, 3) := by decide +kernel
theorem dX5_heir_22 : decode cX5_heir 22 = .ok (.ior, 1) := by decide +kernel
theorem dX5_heir_23 : decode cX5_heir 23 = .ok (.iastore, 1) := by decide +kernel
theorem dX5_heir_24 : decode cX5_heir 24 = .ok (.return_, 1) := by decide +kernel
theorem dX5_select_0 : decode cX5_select 0 = .ok (.iload_n 1, 1) := by decide +kernel
theorem dX5_select_1 : decode cX5_select 1 = .ok (.istore_n 3, 1) := by decide +kernel
theorem dX5_select_2 : decode cX5_select 2 = .ok (.iload_n 3, 1) := by decide +kernel
theorem dX5_select_3 : decode cX5_select 3 = .ok (.bipush 6, 2) := by decide +kernel
theorem dX5_select_5 : decode cX5_select 5 = .ok (.if_icmp .lt 40, 3) := by decide +kernel
theorem dX5_select_8 : decode cX5_select 8 = .ok (.aload_n 0, 1) := by decide +kernel
theorem dX5_select_9 : decode cX5_select 9 = .ok (.getfield 22, 3) := by decide +kernel
theorem dX5_select_12 : decode cX5_select 12 = .ok (.iload_n 3, 1) := by decide +kernel
theorem dX5_select_13 : decode cX5_select 13 = .ok (.bipush 12, 2) := by decide +kernel
theorem dX5_select_15 : decode cX5_select 15 = .ok (.imul, 1) := by decide +kernel
theorem dX5_select_16 : decode cX5_select 16 = .ok (.iload_n 2, 1) := by decide +kernel
theorem dX5_select_17 : decode cX5_select 17 = .ok (.iadd, 1) := by decide +kernel
theorem dX5_select_18 : decode cX5_select 18 = .ok (.iaload, 1) := by decide +kernel
theorem dX5_select_19 : decode cX5_select 19 = .ok (.iconst (-1), 1) := by decide +kernel
theorem dX5_select_20 : decode cX5_select 20 = .ok (.if_icmp .eq 15, 3) := by decide +kernel
theorem dX5_select_23 : decode cX5_select 23 = .ok (.aload_n 0, 1) := by decide +kernel
theorem dX5_select_24 : decode cX5_select 24 = .ok (.getfield 22, 3) := by decide +kernel
theorem dX5_select_27 : decode cX5_select 27 = .ok (.iload_n 3, 1) := by decide +kernel
theorem dX5_select_28 : decode cX5_select 28 = .ok (.bipush 12, 2) := by decide +kernel
theorem dX5_select_30 : decode cX5_select 30 = .ok (.imul, 1) := by decide +kernel
theorem dX5_select_31 : decode cX5_select 31 = .ok (.iload_n 2, 1) := by decide +kernel
theorem dX5_select_32 : decode cX5_select 32 = .ok (.iadd, 1) := by decide +kernel
theorem dX5_select_33 : decode cX5_select 33 = .ok (.iaload, 1) := by decide +kernel
theorem dX5_select_34 : decode cX5_select 34 = .ok (.ireturn, 1) := by decide +kernel
theorem dX5_select_35 : decode cX5_select 35 = .ok (.aload_n 0, 1) := by decide +kernel
theorem dX5_select_36 : decode cX5_select 36 = .ok (.getfield 16, 3) := by decide +kernel
theorem dX5_select_39 : decode cX5_select 39 = .ok (.iload_n 3, 1) := by decide +kernel
theorem dX5_select_40 : decode cX5_select 40 = .ok (.iaload, 1) := by decide +kernel
theorem dX5_select_41 : decode cX5_select 41 = .ok (.istore_n 3, 1) := by decide +kernel
theorem dX5_select_42 : decode cX5_select 42 = .ok (.goto (-40), 3) := by decide +kernel
theorem dX5_select_45 : decode cX5_select 45 = .ok (.aload_n 0, 1) := by decide +kernel
theorem dX5_select_46 : decode cX5_select 46 = .ok (.aload_n 0, 1) := by decide +kernel
theorem dX5_select_47 : decode cX5_select 47 = .ok (.getfield 19, 3) := by decide +kernel
theorem dX5_select_50 : decode cX5_select 50 = .ok (.iload_n 1, 1) := by decide +kernel
theorem dX5_select_51 : decode cX5_select 51 = .ok (.iaload, 1) := by decide +kernel
theorem dX5_select_52 : decode cX5_select 52 = .ok (.iload_n 2, 1) := by decide +kernel
theorem dX5_select_53 : decode cX5_select 53 = .ok (.invokevirtual 91, 3) := by decide +kernel
theorem dX5_select_56 : decode cX5_select 56 = .ok (.ireturn, 1) := by decide +kernel
theorem dX5_lowest_0 : decode cX5_lowest 0 = .ok (.iconst 1, 1) := by decide +kernel
theorem dX5_lowest_1 : decode cX5_lowest 1 = .ok (.istore_n 3, 1) := by decide +kernel
theorem dX5_lowest_2 : decode cX5_lowest 2 = .ok (.iload_n 3, 1) := by decide +kernel
theorem dX5_lowest_3 : decode cX5_lowest 3 = .ok (.iconst 5, 1) := by decide +kernel
theorem dX5_lowest_4 : decode cX5_lowest 4 = .ok (.if_icmp .gt 122, 3) := by decide +kernel
theorem dX5_lowest_7 : decode cX5_lowest 7 = .ok (.iload_n 1, 1) := by decide +kernel
theorem dX5_lowest_8 : decode cX5_lowest 8 = .ok (.iload_n 3, 1) := by decide +kernel
theorem dX5_lowest_9 : decode cX5_lowest 9 = .ok (.invokestatic 84, 3) := by decide +kernel
theorem dX5_lowest_12 : decode cX5_lowest 12 = .ok (.iand, 1) := by decide +kernel
theorem dX5_lowest_13 : decode cX5_lowest 13 = .ok (.ifCond .eq 107, 3) := by decide +kernel
theorem dX5_lowest_16 : decode cX5_lowest 16 = .ok (.aload_n 0, 1) := by decide +kernel
theorem dX5_lowest_17 : decode cX5_lowest 17 = .ok (.getfield 22, 3) := by decide +kernel
theorem dX5_lowest_20 : decode cX5_lowest 20 = .ok (.iload_n 3, 1) := by decide +kernel
theorem dX5_lowest_21 : decode cX5_lowest 21 = .ok (.bipush 12, 2) := by decide +kernel
theorem dX5_lowest_23 : decode cX5_lowest 23 = .ok (.imul, 1) := by decide +kernel
theorem dX5_lowest_24 : decode cX5_lowest 24 = .ok (.iload_n 2, 1) := by decide +kernel
theorem dX5_lowest_25 : decode cX5_lowest 25 = .ok (.iadd, 1) := by decide +kernel
theorem dX5_lowest_26 : decode cX5_lowest 26 = .ok (.iaload, 1) := by decide +kernel
theorem dX5_lowest_27 : decode cX5_lowest 27 = .ok (.iconst (-1), 1) := by decide +kernel
theorem dX5_lowest_28 : decode cX5_lowest 28 = .ok (.if_icmp .ne 6, 3) := by decide +kernel
theorem dX5_lowest_31 : decode cX5_lowest 31 = .ok (.goto 89, 3) := by decide +kernel
theorem dX5_lowest_34 : decode cX5_lowest 34 = .ok (.iconst 1, 1) := by decide +kernel
theorem dX5_lowest_35 : decode cX5_lowest 35 = .ok (.istore 4, 2) := by decide +kernel
theorem dX5_lowest_37 : decode cX5_lowest 37 = .ok (.iconst 1, 1) := by decide +kernel
theorem dX5_lowest_38 : decode cX5_lowest 38 = .ok (.istore 5, 2) := by decide +kernel
theorem dX5_lowest_40 : decode cX5_lowest 40 = .ok (.iload 5, 2) := by decide +kernel
theorem dX5_lowest_42 : decode cX5_lowest 42 = .ok (.iconst 5, 1) := by decide +kernel
theorem dX5_lowest_43 : decode cX5_lowest 43 = .ok (.if_icmp .gt 60, 3) := by decide +kernel
theorem dX5_lowest_46 : decode cX5_lowest 46 = .ok (.iload 5, 2) := by decide +kernel
theorem dX5_lowest_48 : decode cX5_lowest 48 = .ok (.iload_n 3, 1) := by decide +kernel
theorem dX5_lowest_49 : decode cX5_lowest 49 = .ok (.if_icmp .eq 48, 3) := by decide +kernel
theorem dX5_lowest_52 : decode cX5_lowest 52 = .ok (.iload_n 1, 1) := by decide +kernel
theorem dX5_lowest_53 : decode cX5_lowest 53 = .ok (.iload 5, 2) := by decide +kernel
theorem dX5_lowest_55 : decode cX5_lowest 55 = .ok (.invokestatic 84, 3) := by decide +kernel
theorem dX5_lowest_58 : decode cX5_lowest 58 = .ok (.iand, 1) := by decide +kernel
theorem dX5_lowest_59 : decode cX5_lowest 59 = .ok (.ifCond .eq 38, 3) := by decide +kernel
theorem dX5_lowest_62 : decode cX5_lowest 62 = .ok (.aload_n 0, 1) := by decide +kernel
theorem dX5_lowest_63 : decode cX5_lowest 63 = .ok (.getfield 22, 3) := by decide +kernel
theorem dX5_lowest_66 : decode cX5_lowest 66 = .ok (.iload 5, 2) := by decide +kernel
theorem dX5_lowest_68 : decode cX5_lowest 68 = .ok (.bipush 12, 2) := by decide +kernel
theorem dX5_lowest_70 : decode cX5_lowest 70 = .ok (.imul, 1) := by decide +kernel
theorem dX5_lowest_71 : decode cX5_lowest 71 = .ok (.iload_n 2, 1) := by decide +kernel
theorem dX5_lowest_72 : decode cX5_lowest 72 = .ok (.iadd, 1) := by decide +kernel
theorem dX5_lowest_73 : decode cX5_lowest 73 = .ok (.iaload, 1) := by decide +kernel
theorem dX5_lowest_74 : decode cX5_lowest 74 = .ok (.iconst (-1), 1) := by decide +kernel
theorem dX5_lowest_75 : decode cX5_lowest 75 = .ok (.if_icmp .eq 22, 3) := by decide +kernel
theorem dX5_lowest_78 : decode cX5_lowest 78 = .ok (.iload 5, 2) := by decide +kernel
theorem dX5_lowest_80 : decode cX5_lowest 80 = .ok (.invokestatic 84, 3) := by decide +kernel
theorem dX5_lowest_83 : decode cX5_lowest 83 = .ok (.invokestatic 88, 3) := by decide +kernel
theorem dX5_lowest_86 : decode cX5_lowest 86 = .ok (.iload_n 3, 1) := by decide +kernel
theorem dX5_lowest_87 : decode cX5_lowest 87 = .ok (.invokestatic 84, 3) := by decide +kernel
theorem dX5_lowest_90 : decode cX5_lowest 90 = .ok (.iand, 1) := by decide +kernel
theorem dX5_lowest_91 : decode cX5_lowest 91 = .ok (.ifCond .eq 6, 3) := by decide +kernel
theorem dX5_lowest_94 : decode cX5_lowest 94 = .ok (.iconst 0, 1) := by decide +kernel
theorem dX5_lowest_95 : decode cX5_lowest 95 = .ok (.istore 4, 2) := by decide +kernel
theorem dX5_lowest_97 : decode cX5_lowest 97 = .ok (.iinc 5 1, 3) := by decide +kernel
theorem dX5_lowest_100 : decode cX5_lowest 100 = .ok (.goto (-60), 3) := by decide +kernel
theorem dX5_lowest_103 : decode cX5_lowest 103 = .ok (.iload 4, 2) := by decide +kernel
theorem dX5_lowest_105 : decode cX5_lowest 105 = .ok (.ifCond .eq 15, 3) := by decide +kernel
theorem dX5_lowest_108 : decode cX5_lowest 108 = .ok (.aload_n 0, 1) := by decide +kernel
theorem dX5_lowest_109 : decode cX5_lowest 109 = .ok (.getfield 22, 3) := by decide +kernel
theorem dX5_lowest_112 : decode cX5_lowest 112 = .ok (.iload_n 3, 1) := by decide +kernel
theorem dX5_lowest_113 : decode cX5_lowest 113 = .ok (.bipush 12, 2) := by decide +kernel
theorem dX5_lowest_115 : decode cX5_lowest 115 = .ok (.imul, 1) := by decide +kernel
theorem dX5_lowest_116 : decode cX5_lowest 116 = .ok (.iload_n 2, 1) := by decide +kernel
theorem dX5_lowest_117 : decode cX5_lowest 117 = .ok (.iadd, 1) := by decide +kernel
theorem dX5_lowest_118 : decode cX5_lowest 118 = .ok (.iaload, 1) := by decide +kernel
theorem dX5_lowest_119 : decode cX5_lowest 119 = .ok (.ireturn, 1) := by decide +kernel
theorem dX5_lowest_120 : decode cX5_lowest 120 = .ok (.iinc 3 1, 3) := by decide +kernel
theorem dX5_lowest_123 : decode cX5_lowest 123 = .ok (.goto (-121), 3) := by decide +kernel
theorem dX5_lowest_126 : decode cX5_lowest 126 = .ok (.iconst (-1), 1) := by decide +kernel
theorem dX5_lowest_127 : decode cX5_lowest 127 = .ok (.ireturn, 1) := by decide +kernel
theorem dX5_push_0 : decode cX5_push 0 = .ok (.aload_n 0, 1) := by decide +kernel
theorem dX5_push_1 : decode cX5_push 1 = .ok (.getfield 74, 3) := by decide +kernel
theorem dX5_push_4 : decode cX5_push 4 = .ok (.aload_n 0, 1) := by decide +kernel
theorem dX5_push_5 : decode cX5_push 5 = .ok (.getfield 98, 3) := by decide +kernel
theorem dX5_push_8 : decode cX5_push 8 = .ok (.iload_n 1, 1) := by decide +kernel
theorem dX5_push_9 : decode cX5_push 9 = .ok (.iastore, 1) := by decide +kernel
theorem dX5_push_10 : decode cX5_push 10 = .ok (.aload_n 0, 1) := by decide +kernel
theorem dX5_push_11 : decode cX5_push 11 = .ok (.dup, 1) := by decide +kernel
theorem dX5_push_12 : decode cX5_push 12 = .ok (.getfield 98, 3) := by decide +kernel
theorem dX5_push_15 : decode cX5_push 15 = .ok (.iconst 1, 1) := by decide +kernel
theorem dX5_push_16 : decode cX5_push 16 = .ok (.iadd, 1) := by decide +kernel
theorem dX5_push_17 : decode cX5_push 17 = .ok (.putfield 98, 3) := by decide +kernel
theorem dX5_push_20 : decode cX5_push 20 = .ok (.return_, 1) := by decide +kernel
theorem dX5_pop_0 : decode cX5_pop 0 = .ok (.aload_n 0, 1) := by decide +kernel
theorem dX5_pop_1 : decode cX5_pop 1 = .ok (.dup, 1) := by decide +kernel
theorem dX5_pop_2 : decode cX5_pop 2 = .ok (.getfield 98, 3) := by decide +kernel
theorem dX5_pop_5 : decode cX5_pop 5 = .ok (.iconst 1, 1) := by decide +kernel
theorem dX5_pop_6 : decode cX5_pop 6 = .ok (.isub, 1) := by decide +kernel
theorem dX5_pop_7 : decode cX5_pop 7 = .ok (.putfield 98, 3) := by decide +kernel
theorem dX5_pop_10 : decode cX5_pop 10 = .ok (.aload_n 0, 1) := by decide +kernel
theorem dX5_pop_11 : decode cX5_pop 11 = .ok (.getfield 74, 3) := by decide +kernel
theorem dX5_pop_14 : decode cX5_pop 14 = .ok (.aload_n 0, 1) := by decide +kernel
theorem dX5_pop_15 : decode cX5_pop 15 = .ok (.getfield 98, 3) := by decide +kernel
theorem dX5_pop_18 : decode cX5_pop 18 = .ok (.iaload, 1) := by decide +kernel
theorem dX5_pop_19 : decode cX5_pop 19 = .ok (.ireturn, 1) := by decide +kernel
theorem dX5_enter_0 : decode cX5_enter 0 = .ok (.aload_n 0, 1) := by decide +kernel
theorem dX5_enter_1 : decode cX5_enter 1 = .ok (.getfield 102, 3) := by decide +kernel
theorem dX5_enter_4 : decode cX5_enter 4 = .ok (.bipush 64, 2) := by decide +kernel
theorem dX5_enter_6 : decode cX5_enter 6 = .ok (.if_icmp .ge 13, 3) := by decide +kernel
theorem dX5_enter_9 : decode cX5_enter 9 = .ok (.aload_n 0, 1) := by decide +kernel
theorem dX5_enter_10 : decode cX5_enter 10 = .ok (.getfield 62, 3) := by decide +kernel
theorem dX5_enter_13 : decode cX5_enter 13 = .ok (.aload_n 0, 1) := by decide +kernel
theorem dX5_enter_14 : decode cX5_enter 14 = .ok (.getfield 102, 3) := by decide +kernel
theorem dX5_enter_17 : decode cX5_enter 17 = .ok (.iload_n 1, 1) := by decide +kernel
theorem dX5_enter_18 : decode cX5_enter 18 = .ok (.iastore, 1) := by decide +kernel
theorem dX5_enter_19 : decode cX5_enter 19 = .ok (.aload_n 0, 1) := by decide +kernel
theorem dX5_enter_20 : decode cX5_enter 20 = .ok (.dup, 1) := by decide +kernel
theorem dX5_enter_21 : decode cX5_enter 21 = .ok (.getfield 102, 3) := by decide +kernel
theorem dX5_enter_24 : decode cX5_enter 24 = .ok (.iconst 1, 1) := by decide +kernel
theorem dX5_enter_25 : decode cX5_enter 25 = .ok (.iadd, 1) := by decide +kernel
theorem dX5_enter_26 : decode cX5_enter 26 = .ok (.putfield 102, 3) := by decide +kernel
theorem dX5_enter_29 : decode cX5_enter 29 = .ok (.aload_n 0, 1) := by decide +kernel
theorem dX5_enter_30 : decode cX5_enter 30 = .ok (.getfield 65, 3) := by decide +kernel
theorem dX5_enter_33 : decode cX5_enter 33 = .ok (.aload_n 0, 1) := by decide +kernel
theorem dX5_enter_34 : decode cX5_enter 34 = .ok (.getfield 105, 3) := by decide +kernel
theorem dX5_enter_37 : decode cX5_enter 37 = .ok (.iload_n 1, 1) := by decide +kernel
theorem dX5_enter_38 : decode cX5_enter 38 = .ok (.iastore, 1) := by decide +kernel
theorem dX5_enter_39 : decode cX5_enter 39 = .ok (.aload_n 0, 1) := by decide +kernel
theorem dX5_enter_40 : decode cX5_enter 40 = .ok (.getfield 68, 3) := by decide +kernel
theorem dX5_enter_43 : decode cX5_enter 43 = .ok (.aload_n 0, 1) := by decide +kernel
theorem dX5_enter_44 : decode cX5_enter 44 = .ok (.getfield 105, 3) := by decide +kernel
theorem dX5_enter_47 : decode cX5_enter 47 = .ok (.aload_n 0, 1) := by decide +kernel
theorem dX5_enter_48 : decode cX5_enter 48 = .ok (.getfield 13, 3) := by decide +kernel
theorem dX5_enter_51 : decode cX5_enter 51 = .ok (.iload_n 1, 1) := by decide +kernel
theorem dX5_enter_52 : decode cX5_enter 52 = .ok (.iaload, 1) := by decide +kernel
theorem dX5_enter_53 : decode cX5_enter 53 = .ok (.iastore, 1) := by decide +kernel
theorem dX5_enter_54 : decode cX5_enter 54 = .ok (.aload_n 0, 1) := by decide +kernel
theorem dX5_enter_55 : decode cX5_enter 55 = .ok (.getfield 71, 3) := by decide +kernel
theorem dX5_enter_58 : decode cX5_enter 58 = .ok (.aload_n 0, 1) := by decide +kernel
theorem dX5_enter_59 : decode cX5_enter 59 = .ok (.getfield 105, 3) := by decide +kernel
theorem dX5_enter_62 : decode cX5_enter 62 = .ok (.iload_n 2, 1) := by decide +kernel
theorem dX5_enter_63 : decode cX5_enter 63 = .ok (.iastore, 1) := by decide +kernel
theorem dX5_enter_64 : decode cX5_enter 64 = .ok (.aload_n 0, 1) := by decide +kernel
theorem dX5_enter_65 : decode cX5_enter 65 = .ok (.dup, 1) := by decide +kernel
theorem dX5_enter_66 : decode cX5_enter 66 = .ok (.getfield 105, 3) := by decide +kernel
theorem dX5_enter_69 : decode cX5_enter 69 = .ok (.iconst 1, 1) := by decide +kernel
theorem dX5_enter_70 : decode cX5_enter 70 = .ok (.iadd, 1) := by decide +kernel
theorem dX5_enter_71 : decode cX5_enter 71 = .ok (.putfield 105, 3) := by decide +kernel
theorem dX5_enter_74 : decode cX5_enter 74 = .ok (.return_, 1) := by decide +kernel
theorem dX5_act_0 : decode cX5_act 0 = .ok (.aload_n 0, 1) := by decide +kernel
theorem dX5_act_1 : decode cX5_act 1 = .ok (.iconst 0, 1) := by decide +kernel
theorem dX5_act_2 : decode cX5_act 2 = .ok (.putfield 105, 3) := by decide +kernel
theorem dX5_act_5 : decode cX5_act 5 = .ok (.aload_n 0, 1) := by decide +kernel
theorem dX5_act_6 : decode cX5_act 6 = .ok (.iconst 0, 1) := by decide +kernel
theorem dX5_act_7 : decode cX5_act 7 = .ok (.putfield 98, 3) := by decide +kernel
theorem dX5_act_10 : decode cX5_act 10 = .ok (.aload_n 0, 1) := by decide +kernel
theorem dX5_act_11 : decode cX5_act 11 = .ok (.aload_n 0, 1) := by decide +kernel
theorem dX5_act_12 : decode cX5_act 12 = .ok (.getfield 25, 3) := by decide +kernel
theorem dX5_act_15 : decode cX5_act 15 = .ok (.bipush 10, 2) := by decide +kernel
theorem dX5_act_17 : decode cX5_act 17 = .ok (.aload_n 0, 1) := by decide +kernel
theorem dX5_act_18 : decode cX5_act 18 = .ok (.getfield 34, 3) := by decide +kernel
theorem dX5_act_21 : decode cX5_act 21 = .ok (.iload_n 1, 1) := by decide +kernel
theorem dX5_act_22 : decode cX5_act 22 = .ok (.iaload, 1) := by decide +kernel
theorem dX5_act_23 : decode cX5_act 23 = .ok (.iadd, 1) := by decide +kernel
theorem dX5_act_24 : decode cX5_act 24 = .ok (.bipush 12, 2) := by decide +kernel
theorem dX5_act_26 : decode cX5_act 26 = .ok (.imul, 1) := by decide +kernel
theorem dX5_act_27 : decode cX5_act 27 = .ok (.iload_n 2, 1) := by decide +kernel
theorem dX5_act_28 : decode cX5_act 28 = .ok (.iadd, 1) := by decide +kernel
theorem dX5_act_29 : decode cX5_act 29 = .ok (.iaload, 1) := by decide +kernel
theorem dX5_act_30 : decode cX5_act 30 = .ok (.iload_n 3, 1) := by decide +kernel
theorem dX5_act_31 : decode cX5_act 31 = .ok (.invokevirtual 108, 3) := by decide +kernel
theorem dX5_act_34 : decode cX5_act 34 = .ok (.aload_n 0, 1) := by decide +kernel
theorem dX5_act_35 : decode cX5_act 35 = .ok (.getfield 105, 3) := by decide +kernel
theorem dX5_act_38 : decode cX5_act 38 = .ok (.ifCond .le 224, 3) := by decide +kernel
theorem dX5_act_41 : decode cX5_act 41 = .ok (.aload_n 0, 1) := by decide +kernel
theorem dX5_act_42 : decode cX5_act 42 = .ok (.getfield 105, 3) := by decide +kernel
theorem dX5_act_45 : decode cX5_act 45 = .ok (.iconst 1, 1) := by decide +kernel
theorem dX5_act_46 : decode cX5_act 46 = .ok (.isub, 1) := by decide +kernel
theorem dX5_act_47 : decode cX5_act 47 = .ok (.istore 4, 2) := by decide +kernel
theorem dX5_act_49 : decode cX5_act 49 = .ok (.aload_n 0, 1) := by decide +kernel
theorem dX5_act_50 : decode cX5_act 50 = .ok (.getfield 9, 3) := by decide +kernel
theorem dX5_act_53 : decode cX5_act 53 = .ok (.aload_n 0, 1) := by decide +kernel
theorem dX5_act_54 : decode cX5_act 54 = .ok (.getfield 68, 3) := by decide +kernel
theorem dX5_act_57 : decode cX5_act 57 = .ok (.iload 4, 2) := by decide +kernel
theorem dX5_act_59 : decode cX5_act 59 = .ok (.iaload, 1) := by decide +kernel
theorem dX5_act_60 : decode cX5_act 60 = .ok (.iaload, 1) := by decide +kernel
theorem dX5_act_61 : decode cX5_act 61 = .ok (.istore 5, 2) := by decide +kernel
theorem dX5_act_63 : decode cX5_act 63 = .ok (.aload_n 0, 1) := by decide +kernel
theorem dX5_act_64 : decode cX5_act 64 = .ok (.getfield 68, 3) := by decide +kernel
theorem dX5_act_67 : decode cX5_act 67 = .ok (.iload 4, 2) := by decide +kernel
theorem dX5_act_69 : decode cX5_act 69 = .ok (.dup2, 1) := by decide +kernel
theorem dX5_act_70 : decode cX5_act 70 = .ok (.iaload, 1) := by decide +kernel
theorem dX5_act_71 : decode cX5_act 71 = .ok (.iconst 1, 1) := by decide +kernel
theorem dX5_act_72 : decode cX5_act 72 = .ok (.iadd, 1) := by decide +kernel
theorem dX5_act_73 : decode cX5_act 73 = .ok (.iastore, 1) := by decide +kernel
theorem dX5_act_74 : decode cX5_act 74 = .ok (.iload 5, 2) := by decide +kernel
theorem dX5_act_76 : decode cX5_act 76 = .ok (.sipush 3000, 3) := by decide +kernel
theorem dX5_act_79 : decode cX5_act 79 = .ok (.if_icmp .lt 16, 3) := by decide +kernel
theorem dX5_act_82 : decode cX5_act 82 = .ok (.aload_n 0, 1) := by decide +kernel
theorem dX5_act_83 : decode cX5_act 83 = .ok (.dup, 1) := by decide +kernel
theorem dX5_act_84 : decode cX5_act 84 = .ok (.getfield 105, 3) := by decide +kernel
theorem dX5_act_87 : decode cX5_act 87 = .ok (.iconst 1, 1) := by decide +kernel
theorem dX5_act_88 : decode cX5_act 88 = .ok (.isub, 1) := by decide +kernel
theorem dX5_act_89 : decode cX5_act 89 = .ok (.putfield 105, 3) := by decide +kernel
theorem dX5_act_92 : decode cX5_act 92 = .ok (.goto 167, 3) := by decide +kernel
theorem dX5_act_95 : decode cX5_act 95 = .ok (.iload 5, 2) := by decide +kernel
theorem dX5_act_97 : decode cX5_act 97 = .ok (.sipush 2000, 3) := by decide +kernel
theorem dX5_act_100 : decode cX5_act 100 = .ok (.if_icmp .lt 20, 3) := by decide +kernel
theorem dX5_act_103 : decode cX5_act 103 = .ok (.aload_n 0, 1) := by decide +kernel
theorem dX5_act_104 : decode cX5_act 104 = .ok (.iload 5, 2) := by decide +kernel
theorem dX5_act_106 : decode cX5_act 106 = .ok (.sipush 2000, 3) := by decide +kernel
theorem dX5_act_109 : decode cX5_act 109 = .ok (.isub, 1) := by decide +kernel
theorem dX5_act_110 : decode cX5_act 110 = .ok (.aload_n 0, 1) := by decide +kernel
theorem dX5_act_111 : decode cX5_act 111 = .ok (.invokevirtual 112, 3) := by decide +kernel
theorem dX5_act_114 : decode cX5_act 114 = .ok (.invokevirtual 108, 3) := by decide +kernel
theorem dX5_act_117 : decode cX5_act 117 = .ok (.goto 142, 3) := by decide +kernel
theorem dX5_act_120 : decode cX5_act 120 = .ok (.iload 5, 2) := by decide +kernel
theorem dX5_act_122 : decode cX5_act 122 = .ok (.sipush 1312, 3) := by decide +kernel
theorem dX5_act_125 : decode cX5_act 125 = .ok (.if_icmp .lt 28, 3) := by decide +kernel
theorem dX5_act_128 : decode cX5_act 128 = .ok (.aload_n 0, 1) := by decide +kernel
theorem dX5_act_129 : decode cX5_act 129 = .ok (.aload_n 0, 1) := by decide +kernel
theorem dX5_act_130 : decode cX5_act 130 = .ok (.getfield 25, 3) := by decide +kernel
theorem dX5_act_133 : decode cX5_act 133 = .ok (.iload 5, 2) := by decide +kernel
theorem dX5_act_135 : decode cX5_act 135 = .ok (.sipush 1312, 3) := by decide +kernel
theorem dX5_act_138 : decode cX5_act 138 = .ok (.isub, 1) := by decide +kernel
theorem dX5_act_139 : decode cX5_act 139 = .ok (.bipush 12, 2) := by decide +kernel
theorem dX5_act_141 : decode cX5_act 141 = .ok (.iadd, 1) := by decide +kernel
theorem dX5_act_142 : decode cX5_act 142 = .ok (.iaload, 1) := by decide +kernel
theorem dX5_act_143 : decode cX5_act 143 = .ok (.aload_n 0, 1) := by decide +kernel
theorem dX5_act_144 : decode cX5_act 144 = .ok (.invokevirtual 112, 3) := by decide +kernel
theorem dX5_act_147 : decode cX5_act 147 = .ok (.invokevirtual 108, 3) := by decide +kernel
theorem dX5_act_150 : decode cX5_act 150 = .ok (.goto 109, 3) := by decide +kernel
theorem dX5_act_153 : decode cX5_act 153 = .ok (.iload 5, 2) := by decide +kernel
theorem dX5_act_155 : decode cX5_act 155 = .ok (.sipush 1200, 3) := by decide +kernel
theorem dX5_act_158 : decode cX5_act 158 = .ok (.if_icmp .lt 44, 3) := by decide +kernel
theorem dX5_act_161 : decode cX5_act 161 = .ok (.aload_n 0, 1) := by decide +kernel
theorem dX5_act_162 : decode cX5_act 162 = .ok (.aload_n 0, 1) := by decide +kernel
theorem dX5_act_163 : decode cX5_act 163 = .ok (.getfield 25, 3) := by decide +kernel
theorem dX5_act_166 : decode cX5_act 166 = .ok (.aload_n 0, 1) := by decide +kernel
theorem dX5_act_167 : decode cX5_act 167 = .ok (.getfield 16, 3) := by decide +kernel
theorem dX5_act_170 : decode cX5_act 170 = .ok (.aload_n 0, 1) := by decide +kernel
theorem dX5_act_171 : decode cX5_act 171 = .ok (.getfield 65, 3) := by decide +kernel
theorem dX5_act_174 : decode cX5_act 174 = .ok (.iload 4, 2) := by decide +kernel
theorem dX5_act_176 : decode cX5_act 176 = .ok (.iaload, 1) := by decide +kernel
theorem dX5_act_177 : decode cX5_act 177 = .ok (.bipush 10, 2) := by decide +kernel
theorem dX5_act_179 : decode cX5_act 179 = .ok (.idiv, 1) := by decide +kernel
theorem dX5_act_180 : decode cX5_act 180 = .ok (.iaload, 1) := by decide +kernel
theorem dX5_act_181 : decode cX5_act 181 = .ok (.bipush 12, 2) := by decide +kernel
theorem dX5_act_183 : decode cX5_act 183 = .ok (.imul, 1) := by decide +kernel
theorem dX5_act_184 : decode cX5_act 184 = .ok (.iload 5, 2) := by decide +kernel
theorem dX5_act_186 : decode cX5_act 186 = .ok (.iadd, 1) := by decide +kernel
theorem dX5_act_187 : decode cX5_act 187 = .ok (.sipush 1200, 3) := by decide +kernel
theorem dX5_act_190 : decode cX5_act 190 = .ok (.isub, 1) := by decide +kernel
theorem dX5_act_191 : decode cX5_act 191 = .ok (.iaload, 1) := by decide +kernel
theorem dX5_act_192 : decode cX5_act 192 = .ok (.aload_n 0, 1) := by decide +kernel
theorem dX5_act_193 : decode cX5_act 193 = .ok (.invokevirtual 112, 3) := by decide +kernel
theorem dX5_act_196 : decode cX5_act 196 = .ok (.invokevirtual 108, 3) := by decide +kernel
theorem dX5_act_199 : decode cX5_act 199 = .ok (.goto 60, 3) := by decide +kernel
theorem dX5_act_202 : decode cX5_act 202 = .ok (.iload 5, 2) := by decide +kernel
theorem dX5_act_204 : decode cX5_act 204 = .ok (.sipush 1100, 3) := by decide +kernel
theorem dX5_act_207 : decode cX5_act 207 = .ok (.if_icmp .lt 38, 3) := by decide +kernel
theorem dX5_act_210 : decode cX5_act 210 = .ok (.aload_n 0, 1) := by decide +kernel
theorem dX5_act_211 : decode cX5_act 211 = .ok (.aload_n 0, 1) := by decide +kernel
theorem dX5_act_212 : decode cX5_act 212 = .ok (.getfield 25, 3) := by decide +kernel
theorem dX5_act_215 : decode cX5_act 215 = .ok (.bipush 10, 2) := by decide +kernel
theorem dX5_act_217 : decode cX5_act 217 = .ok (.aload_n 0, 1) := by decide +kernel
theorem dX5_act_218 : decode cX5_act 218 = .ok (.getfield 34, 3) := by decide +kernel
theorem dX5_act_221 : decode cX5_act 221 = .ok (.iload_n 1, 1) := by decide +kernel
theorem dX5_act_222 : decode cX5_act 222 = .ok (.iaload, 1) := by decide +kernel
theorem dX5_act_223 : decode cX5_act 223 = .ok (.iadd, 1) := by decide +kernel
theorem dX5_act_224 : decode cX5_act 224 = .ok (.bipush 12, 2) := by decide +kernel
theorem dX5_act_226 : decode cX5_act 226 = .ok (.imul, 1) := by decide +kernel
theorem dX5_act_227 : decode cX5_act 227 = .ok (.iload 5, 2) := by decide +kernel
theorem dX5_act_229 : decode cX5_act 229 = .ok (.iadd, 1) := by decide +kernel
theorem dX5_act_230 : decode cX5_act 230 = .ok (.sipush 1100, 3) := by decide +kernel
theorem dX5_act_233 : decode cX5_act 233 = .ok (.isub, 1) := by decide +kernel
theorem dX5_act_234 : decode cX5_act 234 = .ok (.iaload, 1) := by decide +kernel
theorem dX5_act_235 : decode cX5_act 235 = .ok (.aload_n 0, 1) := by decide +kernel
theorem dX5_act_236 : decode cX5_act 236 = .ok (.invokevirtual 112, 3) := by decide +kernel
theorem dX5_act_239 : decode cX5_act 239 = .ok (.invokevirtual 108, 3) := by decide +kernel
theorem dX5_act_242 : decode cX5_act 242 = .ok (.goto 17, 3) := by decide +kernel
theorem dX5_act_245 : decode cX5_act 245 = .ok (.aload_n 0, 1) := by decide +kernel
theorem dX5_act_246 : decode cX5_act 246 = .ok (.iload_n 1, 1) := by decide +kernel
theorem dX5_act_247 : decode cX5_act 247 = .ok (.iload 5, 2) := by decide +kernel
theorem dX5_act_249 : decode cX5_act 249 = .ok (.aload_n 0, 1) := by decide +kernel
theorem dX5_act_250 : decode cX5_act 250 = .ok (.getfield 71, 3) := by decide +kernel
theorem dX5_act_253 : decode cX5_act 253 = .ok (.iload 4, 2) := by decide +kernel
theorem dX5_act_255 : decode cX5_act 255 = .ok (.iaload, 1) := by decide +kernel
theorem dX5_act_256 : decode cX5_act 256 = .ok (.invokevirtual 116, 3) := by decide +kernel
theorem dX5_act_259 : decode cX5_act 259 = .ok (.goto (-225), 3) := by decide +kernel
theorem dX5_act_262 : decode cX5_act 262 = .ok (.aload_n 0, 1) := by decide +kernel
theorem dX5_act_263 : decode cX5_act 263 = .ok (.invokevirtual 112, 3) := by decide +kernel
theorem dX5_act_266 : decode cX5_act 266 = .ok (.ireturn, 1) := by decide +kernel
theorem dX5_step_0 : decode cX5_step 0 = .ok (.iload_n 2, 1) := by decide +kernel
theorem dX5_step_1 : decode cX5_step 1 = .ok (.sipush 1000, 3) := by decide +kernel
theorem dX5_step_4 : decode cX5_step 4 = .ok (.if_icmp .ge 9, 3) := by decide +kernel
theorem dX5_step_7 : decode cX5_step 7 = .ok (.aload_n 0, 1) := by decide +kernel
theorem dX5_step_8 : decode cX5_step 8 = .ok (.iload_n 2, 1) := by decide +kernel
theorem dX5_step_9 : decode cX5_step 9 = .ok (.invokevirtual 119, 3) := by decide +kernel
theorem dX5_step_12 : decode cX5_step 12 = .ok (.return_, 1) := by decide +kernel
theorem dX5_step_13 : decode cX5_step 13 = .ok (.iload_n 2, 1) := by decide +kernel
theorem dX5_step_14 : decode cX5_step 14 = .ok (.tableswitch 104 1000 1009 #[54, 60, 71, 104, 104, 104, 104, 104, 82, 93], 54) := by decide +kernel
theorem dX5_step_68 : decode cX5_step 68 = .ok (.aload_n 0, 1) := by decide +kernel
theorem dX5_step_69 : decode cX5_step 69 = .ok (.iload_n 3, 1) := by decide +kernel
theorem dX5_step_70 : decode cX5_step 70 = .ok (.invokevirtual 119, 3) := by decide +kernel
theorem dX5_step_73 : decode cX5_step 73 = .ok (.return_, 1) := by decide +kernel
theorem dX5_step_74 : decode cX5_step 74 = .ok (.aload_n 0, 1) := by decide +kernel
theorem dX5_step_75 : decode cX5_step 75 = .ok (.aload_n 0, 1) := by decide +kernel
theorem dX5_step_76 : decode cX5_step 76 = .ok (.getfield 37, 3) := by decide +kernel
theorem dX5_step_79 : decode cX5_step 79 = .ok (.iload_n 1, 1) := by decide +kernel
theorem dX5_step_80 : decode cX5_step 80 = .ok (.iaload, 1) := by decide +kernel
theorem dX5_step_81 : decode cX5_step 81 = .ok (.invokevirtual 119, 3) := by decide +kernel
theorem dX5_step_84 : decode cX5_step 84 = .ok (.return_, 1) := by decide +kernel
theorem dX5_step_85 : decode cX5_step 85 = .ok (.aload_n 0, 1) := by decide +kernel
theorem dX5_step_86 : decode cX5_step 86 = .ok (.aload_n 0, 1) := by decide +kernel
theorem dX5_step_87 : decode cX5_step 87 = .ok (.getfield 40, 3) := by decide +kernel
theorem dX5_step_90 : decode cX5_step 90 = .ok (.iload_n 1, 1) := by decide +kernel
theorem dX5_step_91 : decode cX5_step 91 = .ok (.iaload, 1) := by decide +kernel
theorem dX5_step_92 : decode cX5_step 92 = .ok (.invokevirtual 119, 3) := by decide +kernel
theorem dX5_step_95 : decode cX5_step 95 = .ok (.return_, 1) := by decide +kernel
theorem dX5_step_96 : decode cX5_step 96 = .ok (.aload_n 0, 1) := by decide +kernel
theorem dX5_step_97 : decode cX5_step 97 = .ok (.getfield 37, 3) := by decide +kernel
theorem dX5_step_100 : decode cX5_step 100 = .ok (.iload_n 1, 1) := by decide +kernel
theorem dX5_step_101 : decode cX5_step 101 = .ok (.aload_n 0, 1) := by decide +kernel
theorem dX5_step_102 : decode cX5_step 102 = .ok (.invokevirtual 112, 3) := by decide +kernel
theorem dX5_step_105 : decode cX5_step 105 = .ok (.iastore, 1) := by decide +kernel
theorem dX5_step_106 : decode cX5_step 106 = .ok (.return_, 1) := by decide +kernel
theorem dX5_step_107 : decode cX5_step 107 = .ok (.aload_n 0, 1) := by decide +kernel
theorem dX5_step_108 : decode cX5_step 108 = .ok (.getfield 40, 3) := by decide +kernel
theorem dX5_step_111 : decode cX5_step 111 = .ok (.iload_n 1, 1) := by decide +kernel
theorem dX5_step_112 : decode cX5_step 112 = .ok (.aload_n 0, 1) := by decide +kernel
theorem dX5_step_113 : decode cX5_step 113 = .ok (.invokevirtual 112, 3) := by decide +kernel
theorem dX5_step_116 : decode cX5_step 116 = .ok (.iastore, 1) := by decide +kernel
theorem dX5_step_117 : decode cX5_step 117 = .ok (.return_, 1) := by decide +kernel
theorem dX5_step_118 : decode cX5_step 118 = .ok (.aload_n 0, 1) := by decide +kernel
theorem dX5_step_119 : decode cX5_step 119 = .ok (.invokevirtual 112, 3) := by decide +kernel
theorem dX5_step_122 : decode cX5_step 122 = .ok (.istore 4, 2) := by decide +kernel
theorem dX5_step_124 : decode cX5_step 124 = .ok (.aload_n 0, 1) := by decide +kernel
theorem dX5_step_125 : decode cX5_step 125 = .ok (.invokevirtual 112, 3) := by decide +kernel
theorem dX5_step_128 : decode cX5_step 128 = .ok (.istore 5, 2) := by decide +kernel
theorem dX5_step_130 : decode cX5_step 130 = .ok (.aload_n 0, 1) := by decide +kernel
theorem dX5_step_131 : decode cX5_step 131 = .ok (.iload_n 2, 1) := by decide +kernel
theorem dX5_step_132 : decode cX5_step 132 = .ok (.sipush 1003, 3) := by decide +kernel
theorem dX5_step_135 : decode cX5_step 135 = .ok (.if_icmp .ne 11, 3) := by decide +kernel
theorem dX5_step_138 : decode cX5_step 138 = .ok (.iload 5, 2) := by decide +kernel
theorem dX5_step_140 : decode cX5_step 140 = .ok (.iload 4, 2) := by decide +kernel
theorem dX5_step_142 : decode cX5_step 142 = .ok (.iadd, 1) := by decide +kernel
theorem dX5_step_143 : decode cX5_step 143 = .ok (.goto 53, 3) := by decide +kernel
theorem dX5_step_146 : decode cX5_step 146 = .ok (.iload_n 2, 1) := by decide +kernel
theorem dX5_step_147 : decode cX5_step 147 = .ok (.sipush 1004, 3) := by decide +kernel
theorem dX5_step_150 : decode cX5_step 150 = .ok (.if_icmp .ne 11, 3) := by decide +kernel
theorem dX5_step_153 : decode cX5_step 153 = .ok (.iload 5, 2) := by decide +kernel
theorem dX5_step_155 : decode cX5_step 155 = .ok (.iload 4, 2) := by decide +kernel
theorem dX5_step_157 : decode cX5_step 157 = .ok (.isub, 1) := by decide +kernel
theorem dX5_step_158 : decode cX5_step 158 = .ok (.goto 38, 3) := by decide +kernel
theorem dX5_step_161 : decode cX5_step 161 = .ok (.iload_n 2, 1) := by decide +kernel
theorem dX5_step_162 : decode cX5_step 162 = .ok (.sipush 1005, 3) := by decide +kernel
theorem dX5_step_165 : decode cX5_step 165 = .ok (.if_icmp .ne 11, 3) := by decide +kernel
theorem dX5_step_168 : decode cX5_step 168 = .ok (.iload 5, 2) := by decide +kernel
theorem dX5_step_170 : decode cX5_step 170 = .ok (.iload 4, 2) := by decide +kernel
theorem dX5_step_172 : decode cX5_step 172 = .ok (.imul, 1) := by decide +kernel
theorem dX5_step_173 : decode cX5_step 173 = .ok (.goto 23, 3) := by decide +kernel
theorem dX5_step_176 : decode cX5_step 176 = .ok (.iload_n 2, 1) := by decide +kernel
theorem dX5_step_177 : decode cX5_step 177 = .ok (.sipush 1006, 3) := by decide +kernel
theorem dX5_step_180 : decode cX5_step 180 = .ok (.if_icmp .ne 11, 3) := by decide +kernel
theorem dX5_step_183 : decode cX5_step 183 = .ok (.iload 5, 2) := by decide +kernel
theorem dX5_step_185 : decode cX5_step 185 = .ok (.iload 4, 2) := by decide +kernel
theorem dX5_step_187 : decode cX5_step 187 = .ok (.ixor, 1) := by decide +kernel
theorem dX5_step_188 : decode cX5_step 188 = .ok (.goto 8, 3) := by decide +kernel
theorem dX5_step_191 : decode cX5_step 191 = .ok (.iload 5, 2) := by decide +kernel
theorem dX5_step_193 : decode cX5_step 193 = .ok (.iload 4, 2) := by decide +kernel
theorem dX5_step_195 : decode cX5_step 195 = .ok (.iand, 1) := by decide +kernel
theorem dX5_step_196 : decode cX5_step 196 = .ok (.invokevirtual 119, 3) := by decide +kernel
theorem dX5_step_199 : decode cX5_step 199 = .ok (.return_, 1) := by decide +kernel
theorem dX5_isDevice_0 : decode cX5_isDevice 0 = .ok (.iload_n 1, 1) := by decide +kernel
theorem dX5_isDevice_1 : decode cX5_isDevice 1 = .ok (.ifCond .lt 15, 3) := by decide +kernel
theorem dX5_isDevice_4 : decode cX5_isDevice 4 = .ok (.iload_n 1, 1) := by decide +kernel
theorem dX5_isDevice_5 : decode cX5_isDevice 5 = .ok (.aload_n 0, 1) := by decide +kernel
theorem dX5_isDevice_6 : decode cX5_isDevice 6 = .ok (.getfield 123, 3) := by decide +kernel
theorem dX5_isDevice_9 : decode cX5_isDevice 9 = .ok (.if_icmp .ge 7, 3) := by decide +kernel
theorem dX5_isDevice_12 : decode cX5_isDevice 12 = .ok (.iconst 1, 1) := by decide +kernel
theorem dX5_isDevice_13 : decode cX5_isDevice 13 = .ok (.goto 4, 3) := by decide +kernel
theorem dX5_isDevice_16 : decode cX5_isDevice 16 = .ok (.iconst 0, 1) := by decide +kernel
theorem dX5_isDevice_17 : decode cX5_isDevice 17 = .ok (.ireturn, 1) := by decide +kernel
theorem dX5_isAct_0 : decode cX5_isAct 0 = .ok (.iload_n 0, 1) := by decide +kernel
theorem dX5_isAct_1 : decode cX5_isAct 1 = .ok (.ifCond .lt 13, 3) := by decide +kernel
theorem dX5_isAct_4 : decode cX5_isAct 4 = .ok (.iload_n 0, 1) := by decide +kernel
theorem dX5_isAct_5 : decode cX5_isAct 5 = .ok (.bipush 12, 2) := by decide +kernel
theorem dX5_isAct_7 : decode cX5_isAct 7 = .ok (.if_icmp .ge 7, 3) := by decide +kernel
theorem dX5_isAct_10 : decode cX5_isAct 10 = .ok (.iconst 1, 1) := by decide +kernel
theorem dX5_isAct_11 : decode cX5_isAct 11 = .ok (.goto 4, 3) := by decide +kernel
theorem dX5_isAct_14 : decode cX5_isAct 14 = .ok (.iconst 0, 1) := by decide +kernel
theorem dX5_isAct_15 : decode cX5_isAct 15 = .ok (.ireturn, 1) := by decide +kernel
theorem dX5_isWay_0 : decode cX5_isWay 0 = .ok (.iload_n 0, 1) := by decide +kernel
theorem dX5_isWay_1 : decode cX5_isWay 1 = .ok (.ifCond .lt 13, 3) := by decide +kernel
theorem dX5_isWay_4 : decode cX5_isWay 4 = .ok (.iload_n 0, 1) := by decide +kernel
theorem dX5_isWay_5 : decode cX5_isWay 5 = .ok (.bipush 7, 2) := by decide +kernel
theorem dX5_isWay_7 : decode cX5_isWay 7 = .ok (.if_icmp .ge 7, 3) := by decide +kernel
theorem dX5_isWay_10 : decode cX5_isWay 10 = .ok (.iconst 1, 1) := by decide +kernel
theorem dX5_isWay_11 : decode cX5_isWay 11 = .ok (.goto 4, 3) := by decide +kernel
theorem dX5_isWay_14 : decode cX5_isWay 14 = .ok (.iconst 0, 1) := by decide +kernel
theorem dX5_isWay_15 : decode cX5_isWay 15 = .ok (.ireturn, 1) := by decide +kernel
theorem dX5_isAble_0 : decode cX5_isAble 0 = .ok (.iload_n 2, 1) := by decide +kernel
theorem dX5_isAble_1 : decode cX5_isAble 1 = .ok (.iconst 1, 1) := by decide +kernel
theorem dX5_isAble_2 : decode cX5_isAble 2 = .ok (.if_icmp .le 27, 3) := by decide +kernel
theorem dX5_isAble_5 : decode cX5_isAble 5 = .ok (.aload_n 0, 1) := by decide +kernel
theorem dX5_isAble_6 : decode cX5_isAble 6 = .ok (.getfield 19, 3) := by decide +kernel
theorem dX5_isAble_9 : decode cX5_isAble 9 = .ok (.bipush 10, 2) := by decide +kernel
theorem dX5_isAble_11 : decode cX5_isAble 11 = .ok (.aload_n 0, 1) := by decide +kernel
theorem dX5_isAble_12 : decode cX5_isAble 12 = .ok (.getfield 34, 3) := by decide +kernel
theorem dX5_isAble_15 : decode cX5_isAble 15 = .ok (.iload_n 1, 1) := by decide +kernel
theorem dX5_isAble_16 : decode cX5_isAble 16 = .ok (.iaload, 1) := by decide +kernel
theorem dX5_isAble_17 : decode cX5_isAble 17 = .ok (.iadd, 1) := by decide +kernel
theorem dX5_isAble_18 : decode cX5_isAble 18 = .ok (.iaload, 1) := by decide +kernel
theorem dX5_isAble_19 : decode cX5_isAble 19 = .ok (.iload_n 2, 1) := by decide +kernel
theorem dX5_isAble_20 : decode cX5_isAble 20 = .ok (.iconst 1, 1) := by decide +kernel
theorem dX5_isAble_21 : decode cX5_isAble 21 = .ok (.isub, 1) := by decide +kernel
theorem dX5_isAble_22 : decode cX5_isAble 22 = .ok (.invokestatic 84, 3) := by decide +kernel
theorem dX5_isAble_25 : decode cX5_isAble 25 = .ok (.iand, 1) := by decide +kernel
theorem dX5_isAble_26 : decode cX5_isAble 26 = .ok (.ifCond .eq 7, 3) := by decide +kernel
theorem dX5_isAble_29 : decode cX5_isAble 29 = .ok (.iconst 1, 1) := by decide +kernel
theorem dX5_isAble_30 : decode cX5_isAble 30 = .ok (.goto 4, 3) := by decide +kernel
theorem dX5_isAble_33 : decode cX5_isAble 33 = .ok (.iconst 0, 1) := by decide +kernel
theorem dX5_isAble_34 : decode cX5_isAble 34 = .ok (.ireturn, 1) := by decide +kernel
theorem dX5_isOf_0 : decode cX5_isOf 0 = .ok (.iload_n 2, 1) := by decide +kernel
theorem dX5_isOf_1 : decode cX5_isOf 1 = .ok (.ifCond .ne 17, 3) := by decide +kernel
theorem dX5_isOf_4 : decode cX5_isOf 4 = .ok (.aload_n 0, 1) := by decide +kernel
theorem dX5_isOf_5 : decode cX5_isOf 5 = .ok (.getfield 31, 3) := by decide +kernel
theorem dX5_isOf_8 : decode cX5_isOf 8 = .ok (.aload_n 0, 1) := by decide +kernel
theorem dX5_isOf_9 : decode cX5_isOf 9 = .ok (.getfield 34, 3) := by decide +kernel
theorem dX5_isOf_12 : decode cX5_isOf 12 = .ok (.iload_n 3, 1) := by decide +kernel
theorem dX5_isOf_13 : decode cX5_isOf 13 = .ok (.iaload, 1) := by decide +kernel
theorem dX5_isOf_14 : decode cX5_isOf 14 = .ok (.iaload, 1) := by decide +kernel
theorem dX5_isOf_15 : decode cX5_isOf 15 = .ok (.goto 9, 3) := by decide +kernel
theorem dX5_isOf_18 : decode cX5_isOf 18 = .ok (.aload_n 0, 1) := by decide +kernel
theorem dX5_isOf_19 : decode cX5_isOf 19 = .ok (.getfield 28, 3) := by decide +kernel
theorem dX5_isOf_22 : decode cX5_isOf 22 = .ok (.iload_n 2, 1) := by decide +kernel
theorem dX5_isOf_23 : decode cX5_isOf 23 = .ok (.iaload, 1) := by decide +kernel
theorem dX5_isOf_24 : decode cX5_isOf 24 = .ok (.iload_n 1, 1) := by decide +kernel
theorem dX5_isOf_25 : decode cX5_isOf 25 = .ok (.invokestatic 84, 3) := by decide +kernel
theorem dX5_isOf_28 : decode cX5_isOf 28 = .ok (.iand, 1) := by decide +kernel
theorem dX5_isOf_29 : decode cX5_isOf 29 = .ok (.ifCond .eq 7, 3) := by decide +kernel
theorem dX5_isOf_32 : decode cX5_isOf 32 = .ok (.iconst 1, 1) := by decide +kernel
theorem dX5_isOf_33 : decode cX5_isOf 33 = .ok (.goto 4, 3) := by decide +kernel
theorem dX5_isOf_36 : decode cX5_isOf 36 = .ok (.iconst 0, 1) := by decide +kernel
theorem dX5_isOf_37 : decode cX5_isOf 37 = .ok (.ireturn, 1) := by decide +kernel
theorem dX5_refused_0 : decode cX5_refused 0 = .ok (.aload_n 0, 1) := by decide +kernel
theorem dX5_refused_1 : decode cX5_refused 1 = .ok (.iload_n 1, 1) := by decide +kernel
theorem dX5_refused_2 : decode cX5_refused 2 = .ok (.putfield 126, 3) := by decide +kernel
theorem dX5_refused_5 : decode cX5_refused 5 = .ok (.iconst 0, 1) := by decide +kernel
theorem dX5_refused_6 : decode cX5_refused 6 = .ok (.ireturn, 1) := by decide +kernel
theorem dX5_why_0 : decode cX5_why 0 = .ok (.aload_n 0, 1) := by decide +kernel
theorem dX5_why_1 : decode cX5_why 1 = .ok (.iload_n 1, 1) := by decide +kernel
theorem dX5_why_2 : decode cX5_why 2 = .ok (.invokevirtual 129, 3) := by decide +kernel
theorem dX5_why_5 : decode cX5_why 5 = .ok (.ifCond .eq 17, 3) := by decide +kernel
theorem dX5_why_8 : decode cX5_why 8 = .ok (.iload_n 2, 1) := by decide +kernel
theorem dX5_why_9 : decode cX5_why 9 = .ok (.invokestatic 133, 3) := by decide +kernel
theorem dX5_why_12 : decode cX5_why 12 = .ok (.ifCond .eq 10, 3) := by decide +kernel
theorem dX5_why_15 : decode cX5_why 15 = .ok (.iload_n 3, 1) := by decide +kernel
theorem dX5_why_16 : decode cX5_why 16 = .ok (.invokestatic 136, 3) := by decide +kernel
theorem dX5_why_19 : decode cX5_why 19 = .ok (.ifCond .ne 5, 3) := by decide +kernel
theorem dX5_why_22 : decode cX5_why 22 = .ok (.iconst 1, 1) := by decide +kernel
theorem dX5_why_23 : decode cX5_why 23 = .ok (.ireturn, 1) := by decide +kernel
theorem dX5_why_24 : decode cX5_why 24 = .ok (.aload_n 0, 1) := by decide +kernel
theorem dX5_why_25 : decode cX5_why 25 = .ok (.iload_n 1, 1) := by decide +kernel
theorem dX5_why_26 : decode cX5_why 26 = .ok (.iload_n 3, 1) := by decide +kernel
theorem dX5_why_27 : decode cX5_why 27 = .ok (.invokevirtual 139, 3) := by decide +kernel
theorem dX5_why_30 : decode cX5_why 30 = .ok (.ifCond .ne 5, 3) := by decide +kernel
theorem dX5_why_33 : decode cX5_why 33 = .ok (.iconst 2, 1) := by decide +kernel
theorem dX5_why_34 : decode cX5_why 34 = .ok (.ireturn, 1) := by decide +kernel
theorem dX5_why_35 : decode cX5_why 35 = .ok (.aload_n 0, 1) := by decide +kernel
theorem dX5_why_36 : decode cX5_why 36 = .ok (.iload_n 2, 1) := by decide +kernel
theorem dX5_why_37 : decode cX5_why 37 = .ok (.iload_n 3, 1) := by decide +kernel
theorem dX5_why_38 : decode cX5_why 38 = .ok (.iload_n 1, 1) := by decide +kernel
theorem dX5_why_39 : decode cX5_why 39 = .ok (.invokevirtual 143, 3) := by decide +kernel
theorem dX5_why_42 : decode cX5_why 42 = .ok (.ifCond .eq 7, 3) := by decide +kernel
theorem dX5_why_45 : decode cX5_why 45 = .ok (.iconst 0, 1) := by decide +kernel
theorem dX5_why_46 : decode cX5_why 46 = .ok (.goto 4, 3) := by decide +kernel
theorem dX5_why_49 : decode cX5_why 49 = .ok (.iconst 3, 1) := by decide +kernel
theorem dX5_why_50 : decode cX5_why 50 = .ok (.ireturn, 1) := by decide +kernel
theorem dX5_begin_0 : decode cX5_begin 0 = .ok (.aload_n 0, 1) := by decide +kernel
theorem dX5_begin_1 : decode cX5_begin 1 = .ok (.iconst 0, 1) := by decide +kernel
theorem dX5_begin_2 : decode cX5_begin 2 = .ok (.putfield 126, 3) := by decide +kernel
theorem dX5_begin_5 : decode cX5_begin 5 = .ok (.aload_n 0, 1) := by decide +kernel
theorem dX5_begin_6 : decode cX5_begin 6 = .ok (.iconst 0, 1) := by decide +kernel
theorem dX5_begin_7 : decode cX5_begin 7 = .ok (.putfield 102, 3) := by decide +kernel
theorem dX5_begin_10 : decode cX5_begin 10 = .ok (.return_, 1) := by decide +kernel
theorem dX5_device_0 : decode cX5_device 0 = .ok (.aload_n 0, 1) := by decide +kernel
theorem dX5_device_1 : decode cX5_device 1 = .ok (.iload_n 1, 1) := by decide +kernel
theorem dX5_device_2 : decode cX5_device 2 = .ok (.ifCond .lt 9, 3) := by decide +kernel
theorem dX5_device_5 : decode cX5_device 5 = .ok (.iload_n 1, 1) := by decide +kernel
theorem dX5_device_6 : decode cX5_device 6 = .ok (.bipush 11, 2) := by decide +kernel
theorem dX5_device_8 : decode cX5_device 8 = .ok (.if_icmp .lt 7, 3) := by decide +kernel
theorem dX5_device_11 : decode cX5_device 11 = .ok (.iconst 1, 1) := by decide +kernel
theorem dX5_device_12 : decode cX5_device 12 = .ok (.goto 18, 3) := by decide +kernel
theorem dX5_device_15 : decode cX5_device 15 = .ok (.aload_n 0, 1) := by decide +kernel
theorem dX5_device_16 : decode cX5_device 16 = .ok (.getfield 123, 3) := by decide +kernel
theorem dX5_device_19 : decode cX5_device 19 = .ok (.sipush 300, 3) := by decide +kernel
theorem dX5_device_22 : decode cX5_device 22 = .ok (.if_icmp .ne 7, 3) := by decide +kernel
theorem dX5_device_25 : decode cX5_device 25 = .ok (.iconst 5, 1) := by decide +kernel
theorem dX5_device_26 : decode cX5_device 26 = .ok (.goto 4, 3) := by decide +kernel
theorem dX5_device_29 : decode cX5_device 29 = .ok (.iconst 0, 1) := by decide +kernel
theorem dX5_device_30 : decode cX5_device 30 = .ok (.putfield 126, 3) := by decide +kernel
theorem dX5_device_33 : decode cX5_device 33 = .ok (.aload_n 0, 1) := by decide +kernel
theorem dX5_device_34 : decode cX5_device 34 = .ok (.getfield 126, 3) := by decide +kernel
theorem dX5_device_37 : decode cX5_device 37 = .ok (.ifCond .eq 5, 3) := by decide +kernel
theorem dX5_device_40 : decode cX5_device 40 = .ok (.iconst (-1), 1) := by decide +kernel
theorem dX5_device_41 : decode cX5_device 41 = .ok (.ireturn, 1) := by decide +kernel
theorem dX5_device_42 : decode cX5_device 42 = .ok (.aload_n 0, 1) := by decide +kernel
theorem dX5_device_43 : decode cX5_device 43 = .ok (.getfield 34, 3) := by decide +kernel
theorem dX5_device_46 : decode cX5_device 46 = .ok (.aload_n 0, 1) := by decide +kernel
theorem dX5_device_47 : decode cX5_device 47 = .ok (.getfield 123, 3) := by decide +kernel
theorem dX5_device_50 : decode cX5_device 50 = .ok (.iload_n 1, 1) := by decide +kernel
theorem dX5_device_51 : decode cX5_device 51 = .ok (.iastore, 1) := by decide +kernel
theorem dX5_device_52 : decode cX5_device 52 = .ok (.aload_n 0, 1) := by decide +kernel
theorem dX5_device_53 : decode cX5_device 53 = .ok (.getfield 37, 3) := by decide +kernel
theorem dX5_device_56 : decode cX5_device 56 = .ok (.aload_n 0, 1) := by decide +kernel
theorem dX5_device_57 : decode cX5_device 57 = .ok (.getfield 123, 3) := by decide +kernel
theorem dX5_device_60 : decode cX5_device 60 = .ok (.iload_n 2, 1) := by decide +kernel
theorem dX5_device_61 : decode cX5_device 61 = .ok (.iastore, 1) := by decide +kernel
theorem dX5_device_62 : decode cX5_device 62 = .ok (.aload_n 0, 1) := by decide +kernel
theorem dX5_device_63 : decode cX5_device 63 = .ok (.dup, 1) := by decide +kernel
theorem dX5_device_64 : decode cX5_device 64 = .ok (.getfield 123, 3) := by decide +kernel
theorem dX5_device_67 : decode cX5_device 67 = .ok (.iconst 1, 1) := by decide +kernel
theorem dX5_device_68 : decode cX5_device 68 = .ok (.iadd, 1) := by decide +kernel
theorem dX5_device_69 : decode cX5_device 69 = .ok (.putfield 123, 3) := by decide +kernel
theorem dX5_device_72 : decode cX5_device 72 = .ok (.aload_n 0, 1) := by decide +kernel
theorem dX5_device_73 : decode cX5_device 73 = .ok (.getfield 123, 3) := by decide +kernel
theorem dX5_device_76 : decode cX5_device 76 = .ok (.iconst 1, 1) := by decide +kernel
theorem dX5_device_77 : decode cX5_device 77 = .ok (.isub, 1) := by decide +kernel
theorem dX5_device_78 : decode cX5_device 78 = .ok (.ireturn, 1) := by decide +kernel
theorem dX5_call_0 : decode cX5_call 0 = .ok (.aload_n 0, 1) := by decide +kernel
theorem dX5_call_1 : decode cX5_call 1 = .ok (.iload_n 1, 1) := by decide +kernel
theorem dX5_call_2 : decode cX5_call 2 = .ok (.iload_n 2, 1) := by decide +kernel
theorem dX5_call_3 : decode cX5_call 3 = .ok (.iload_n 3, 1) := by decide +kernel
theorem dX5_call_4 : decode cX5_call 4 = .ok (.invokevirtual 147, 3) := by decide +kernel
theorem dX5_call_7 : decode cX5_call 7 = .ok (.istore 5, 2) := by decide +kernel
theorem dX5_call_9 : decode cX5_call 9 = .ok (.iload 5, 2) := by decide +kernel
theorem dX5_call_11 : decode cX5_call 11 = .ok (.ifCond .eq 10, 3) := by decide +kernel
theorem dX5_call_14 : decode cX5_call 14 = .ok (.aload_n 0, 1) := by decide +kernel
theorem dX5_call_15 : decode cX5_call 15 = .ok (.iload 5, 2) := by decide +kernel
theorem dX5_call_17 : decode cX5_call 17 = .ok (.invokevirtual 151, 3) := by decide +kernel
theorem dX5_call_20 : decode cX5_call 20 = .ok (.ireturn, 1) := by decide +kernel
theorem dX5_call_21 : decode cX5_call 21 = .ok (.aload_n 0, 1) := by decide +kernel
theorem dX5_call_22 : decode cX5_call 22 = .ok (.invokevirtual 154, 3) := by decide +kernel
theorem dX5_call_25 : decode cX5_call 25 = .ok (.aload_n 0, 1) := by decide +kernel
theorem dX5_call_26 : decode cX5_call 26 = .ok (.iload_n 1, 1) := by decide +kernel
theorem dX5_call_27 : decode cX5_call 27 = .ok (.iload_n 2, 1) := by decide +kernel
theorem dX5_call_28 : decode cX5_call 28 = .ok (.iload 4, 2) := by decide +kernel
theorem dX5_call_30 : decode cX5_call 30 = .ok (.invokevirtual 157, 3) := by decide +kernel
theorem dX5_call_33 : decode cX5_call 33 = .ok (.ireturn, 1) := by decide +kernel
theorem dX5_every_0 : decode cX5_every 0 = .ok (.iload_n 1, 1) := by decide +kernel
theorem dX5_every_1 : decode cX5_every 1 = .ok (.invokestatic 133, 3) := by decide +kernel
theorem dX5_every_4 : decode cX5_every 4 = .ok (.ifCond .eq 10, 3) := by decide +kernel
theorem dX5_every_7 : decode cX5_every 7 = .ok (.iload_n 2, 1) := by decide +kernel
theorem dX5_every_8 : decode cX5_every 8 = .ok (.invokestatic 136, 3) := by decide +kernel
theorem dX5_every_11 : decode cX5_every 11 = .ok (.ifCond .ne 9, 3) := by decide +kernel
theorem dX5_every_14 : decode cX5_every 14 = .ok (.aload_n 0, 1) := by decide +kernel
theorem dX5_every_15 : decode cX5_every 15 = .ok (.iconst 1, 1) := by decide +kernel
theorem dX5_every_16 : decode cX5_every 16 = .ok (.invokevirtual 151, 3) := by decide +kernel
theorem dX5_every_19 : decode cX5_every 19 = .ok (.ireturn, 1) := by decide +kernel
theorem dX5_every_20 : decode cX5_every 20 = .ok (.iload_n 2, 1) := by decide +kernel
theorem dX5_every_21 : decode cX5_every 21 = .ok (.ifCond .eq 23, 3) := by decide +kernel
theorem dX5_every_24 : decode cX5_every 24 = .ok (.aload_n 0, 1) := by decide +kernel
theorem dX5_every_25 : decode cX5_every 25 = .ok (.getfield 28, 3) := by decide +kernel
theorem dX5_every_28 : decode cX5_every 28 = .ok (.iload_n 2, 1) := by decide +kernel
theorem dX5_every_29 : decode cX5_every 29 = .ok (.iaload, 1) := by decide +kernel
theorem dX5_every_30 : decode cX5_every 30 = .ok (.iload_n 1, 1) := by decide +kernel
theorem dX5_every_31 : decode cX5_every 31 = .ok (.invokestatic 84, 3) := by decide +kernel
theorem dX5_every_34 : decode cX5_every 34 = .ok (.iand, 1) := by decide +kernel
theorem dX5_every_35 : decode cX5_every 35 = .ok (.ifCond .ne 9, 3) := by decide +kernel
theorem dX5_every_38 : decode cX5_every 38 = .ok (.aload_n 0, 1) := by decide +kernel
theorem dX5_every_39 : decode cX5_every 39 = .ok (.iconst 3, 1) := by decide +kernel
theorem dX5_every_40 : decode cX5_every 40 = .ok (.invokevirtual 151, 3) := by decide +kernel
theorem dX5_every_43 : decode cX5_every 43 = .ok (.ireturn, 1) := by decide +kernel
theorem dX5_every_44 : decode cX5_every 44 = .ok (.aload_n 0, 1) := by decide +kernel
theorem dX5_every_45 : decode cX5_every 45 = .ok (.invokevirtual 154, 3) := by decide +kernel
theorem dX5_every_48 : decode cX5_every 48 = .ok (.iconst 0, 1) := by decide +kernel
theorem dX5_every_49 : decode cX5_every 49 = .ok (.istore 4, 2) := by decide +kernel
theorem dX5_every_51 : decode cX5_every 51 = .ok (.iconst 0, 1) := by decide +kernel
theorem dX5_every_52 : decode cX5_every 52 = .ok (.istore 5, 2) := by decide +kernel
theorem dX5_every_54 : decode cX5_every 54 = .ok (.iload 5, 2) := by decide +kernel
theorem dX5_every_56 : decode cX5_every 56 = .ok (.aload_n 0, 1) := by decide +kernel
theorem dX5_every_57 : decode cX5_every 57 = .ok (.getfield 123, 3) := by decide +kernel
theorem dX5_every_60 : decode cX5_every 60 = .ok (.if_icmp .ge 43, 3) := by decide +kernel
theorem dX5_every_63 : decode cX5_every 63 = .ok (.aload_n 0, 1) := by decide +kernel
theorem dX5_every_64 : decode cX5_every 64 = .ok (.iload 5, 2) := by decide +kernel
theorem dX5_every_66 : decode cX5_every 66 = .ok (.iload_n 2, 1) := by decide +kernel
theorem dX5_every_67 : decode cX5_every 67 = .ok (.invokevirtual 139, 3) := by decide +kernel
theorem dX5_every_70 : decode cX5_every 70 = .ok (.ifCond .eq 27, 3) := by decide +kernel
theorem dX5_every_73 : decode cX5_every 73 = .ok (.aload_n 0, 1) := by decide +kernel
theorem dX5_every_74 : decode cX5_every 74 = .ok (.iload_n 1, 1) := by decide +kernel
theorem dX5_every_75 : decode cX5_every 75 = .ok (.iload_n 2, 1) := by decide +kernel
theorem dX5_every_76 : decode cX5_every 76 = .ok (.iload 5, 2) := by decide +kernel
theorem dX5_every_78 : decode cX5_every 78 = .ok (.invokevirtual 143, 3) := by decide +kernel
theorem dX5_every_81 : decode cX5_every 81 = .ok (.ifCond .eq 16, 3) := by decide +kernel
theorem dX5_every_84 : decode cX5_every 84 = .ok (.iload 4, 2) := by decide +kernel
theorem dX5_every_86 : decode cX5_every 86 = .ok (.aload_n 0, 1) := by decide +kernel
theorem dX5_every_87 : decode cX5_every 87 = .ok (.iload 5, 2) := by decide +kernel
theorem dX5_every_89 : decode cX5_every 89 = .ok (.iload_n 1, 1) := by decide +kernel
theorem dX5_every_90 : decode cX5_every 90 = .ok (.iload_n 3, 1) := by decide +kernel
theorem dX5_every_91 : decode cX5_every 91 = .ok (.invokevirtual 157, 3) := by decide +kernel
theorem dX5_every_94 : decode cX5_every 94 = .ok (.iadd, 1) := by decide +kernel
theorem dX5_every_95 : decode cX5_every 95 = .ok (.istore 4, 2) := by decide +kernel
theorem dX5_every_97 : decode cX5_every 97 = .ok (.iinc 5 1, 3) := by decide +kernel
theorem dX5_every_100 : decode cX5_every 100 = .ok (.goto (-46), 3) := by decide +kernel
theorem dX5_every_103 : decode cX5_every 103 = .ok (.iload 4, 2) := by decide +kernel
theorem dX5_every_105 : decode cX5_every 105 = .ok (.ireturn, 1) := by decide +kernel
theorem dX5_feed_0 : decode cX5_feed 0 = .ok (.aload_n 0, 1) := by decide +kernel
theorem dX5_feed_1 : decode cX5_feed 1 = .ok (.iload_n 1, 1) := by decide +kernel
theorem dX5_feed_2 : decode cX5_feed 2 = .ok (.invokevirtual 129, 3) := by decide +kernel
theorem dX5_feed_5 : decode cX5_feed 5 = .ok (.ifCond .ne 9, 3) := by decide +kernel
theorem dX5_feed_8 : decode cX5_feed 8 = .ok (.aload_n 0, 1) := by decide +kernel
theorem dX5_feed_9 : decode cX5_feed 9 = .ok (.iconst 1, 1) := by decide +kernel
theorem dX5_feed_10 : decode cX5_feed 10 = .ok (.invokevirtual 151, 3) := by decide +kernel
theorem dX5_feed_13 : decode cX5_feed 13 = .ok (.ireturn, 1) := by decide +kernel
theorem dX5_feed_14 : decode cX5_feed 14 = .ok (.aload_n 0, 1) := by decide +kernel
theorem dX5_feed_15 : decode cX5_feed 15 = .ok (.invokevirtual 154, 3) := by decide +kernel
theorem dX5_feed_18 : decode cX5_feed 18 = .ok (.iconst 0, 1) := by decide +kernel
theorem dX5_feed_19 : decode cX5_feed 19 = .ok (.istore_n 3, 1) := by decide +kernel
theorem dX5_feed_20 : decode cX5_feed 20 = .ok (.bipush 24, 2) := by decide +kernel
theorem dX5_feed_22 : decode cX5_feed 22 = .ok (.istore 4, 2) := by decide +kernel
theorem dX5_feed_24 : decode cX5_feed 24 = .ok (.iload 4, 2) := by decide +kernel
theorem dX5_feed_26 : decode cX5_feed 26 = .ok (.ifCond .lt 65, 3) := by decide +kernel
theorem dX5_feed_29 : decode cX5_feed 29 = .ok (.iload_n 2, 1) := by decide +kernel
theorem dX5_feed_30 : decode cX5_feed 30 = .ok (.iload 4, 2) := by decide +kernel
theorem dX5_feed_32 : decode cX5_feed 32 = .ok (.ishr, 1) := by decide +kernel
theorem dX5_feed_33 : decode cX5_feed 33 = .ok (.sipush 255, 3) := by decide +kernel
theorem dX5_feed_36 : decode cX5_feed 36 = .ok (.iand, 1) := by decide +kernel
theorem dX5_feed_37 : decode cX5_feed 37 = .ok (.istore 5, 2) := by decide +kernel
theorem dX5_feed_39 : decode cX5_feed 39 = .ok (.aload_n 0, 1) := by decide +kernel
theorem dX5_feed_40 : decode cX5_feed 40 = .ok (.iload_n 1, 1) := by decide +kernel
theorem dX5_feed_41 : decode cX5_feed 41 = .ok (.iload 5, 2) := by decide +kernel
theorem dX5_feed_43 : decode cX5_feed 43 = .ok (.bipush 15, 2) := by decide +kernel
theorem dX5_feed_45 : decode cX5_feed 45 = .ok (.iand, 1) := by decide +kernel
theorem dX5_feed_46 : decode cX5_feed 46 = .ok (.iload 5, 2) := by decide +kernel
theorem dX5_feed_48 : decode cX5_feed 48 = .ok (.iconst 4, 1) := by decide +kernel
theorem dX5_feed_49 : decode cX5_feed 49 = .ok (.ishr, 1) := by decide +kernel
theorem dX5_feed_50 : decode cX5_feed 50 = .ok (.bipush 7, 2) := by decide +kernel
theorem dX5_feed_52 : decode cX5_feed 52 = .ok (.iand, 1) := by decide +kernel
theorem dX5_feed_53 : decode cX5_feed 53 = .ok (.invokevirtual 147, 3) := by decide +kernel
theorem dX5_feed_56 : decode cX5_feed 56 = .ok (.ifCond .ne 29, 3) := by decide +kernel
theorem dX5_feed_59 : decode cX5_feed 59 = .ok (.iload_n 3, 1) := by decide +kernel
theorem dX5_feed_60 : decode cX5_feed 60 = .ok (.aload_n 0, 1) := by decide +kernel
theorem dX5_feed_61 : decode cX5_feed 61 = .ok (.iload_n 1, 1) := by decide +kernel
theorem dX5_feed_62 : decode cX5_feed 62 = .ok (.iload 5, 2) := by decide +kernel
theorem dX5_feed_64 : decode cX5_feed 64 = .ok (.bipush 15, 2) := by decide +kernel
theorem dX5_feed_66 : decode cX5_feed 66 = .ok (.iand, 1) := by decide +kernel
theorem dX5_feed_67 : decode cX5_feed 67 = .ok (.iload 5, 2) := by decide +kernel
theorem dX5_feed_69 : decode cX5_feed 69 = .ok (.bipush 127, 2) := by decide +kernel
theorem dX5_feed_71 : decode cX5_feed 71 = .ok (.if_icmp .le 8, 3) := by decide +kernel
theorem dX5_feed_74 : decode cX5_feed 74 = .ok (.iload_n 3, 1) := by decide +kernel
theorem dX5_feed_75 : decode cX5_feed 75 = .ok (.ineg, 1) := by decide +kernel
theorem dX5_feed_76 : decode cX5_feed 76 = .ok (.goto 4, 3) := by decide +kernel
theorem dX5_feed_79 : decode cX5_feed 79 = .ok (.iload_n 3, 1) := by decide +kernel
theorem dX5_feed_80 : decode cX5_feed 80 = .ok (.invokevirtual 157, 3) := by decide +kernel
theorem dX5_feed_83 : decode cX5_feed 83 = .ok (.iadd, 1) := by decide +kernel
theorem dX5_feed_84 : decode cX5_feed 84 = .ok (.istore_n 3, 1) := by decide +kernel
theorem dX5_feed_85 : decode cX5_feed 85 = .ok (.iinc 4 (-8), 3) := by decide +kernel
theorem dX5_feed_88 : decode cX5_feed 88 = .ok (.goto (-64), 3) := by decide +kernel
theorem dX5_feed_91 : decode cX5_feed 91 = .ok (.iload_n 3, 1) := by decide +kernel
theorem dX5_feed_92 : decode cX5_feed 92 = .ok (.ireturn, 1) := by decide +kernel
theorem dX5_link_0 : decode cX5_link 0 = .ok (.aload_n 0, 1) := by decide +kernel
theorem dX5_link_1 : decode cX5_link 1 = .ok (.aload_n 0, 1) := by decide +kernel
theorem dX5_link_2 : decode cX5_link 2 = .ok (.iload_n 1, 1) := by decide +kernel
theorem dX5_link_3 : decode cX5_link 3 = .ok (.invokevirtual 129, 3) := by decide +kernel
theorem dX5_link_6 : decode cX5_link 6 = .ok (.ifCond .eq 11, 3) := by decide +kernel
theorem dX5_link_9 : decode cX5_link 9 = .ok (.aload_n 0, 1) := by decide +kernel
theorem dX5_link_10 : decode cX5_link 10 = .ok (.iload_n 2, 1) := by decide +kernel
theorem dX5_link_11 : decode cX5_link 11 = .ok (.invokevirtual 129, 3) := by decide +kernel
theorem dX5_link_14 : decode cX5_link 14 = .ok (.ifCond .ne 7, 3) := by decide +kernel
theorem dX5_link_17 : decode cX5_link 17 = .ok (.iconst 1, 1) := by decide +kernel
theorem dX5_link_18 : decode cX5_link 18 = .ok (.goto 18, 3) := by decide +kernel
theorem dX5_link_21 : decode cX5_link 21 = .ok (.aload_n 0, 1) := by decide +kernel
theorem dX5_link_22 : decode cX5_link 22 = .ok (.getfield 160, 3) := by decide +kernel
theorem dX5_link_25 : decode cX5_link 25 = .ok (.sipush 400, 3) := by decide +kernel
theorem dX5_link_28 : decode cX5_link 28 = .ok (.if_icmp .ne 7, 3) := by decide +kernel
theorem dX5_link_31 : decode cX5_link 31 = .ok (.iconst 5, 1) := by decide +kernel
theorem dX5_link_32 : decode cX5_link 32 = .ok (.goto 4, 3) := by decide +kernel
theorem dX5_link_35 : decode cX5_link 35 = .ok (.iconst 0, 1) := by decide +kernel
theorem dX5_link_36 : decode cX5_link 36 = .ok (.putfield 126, 3) := by decide +kernel
theorem dX5_link_39 : decode cX5_link 39 = .ok (.aload_n 0, 1) := by decide +kernel
theorem dX5_link_40 : decode cX5_link 40 = .ok (.getfield 126, 3) := by decide +kernel
theorem dX5_link_43 : decode cX5_link 43 = .ok (.ifCond .eq 5, 3) := by decide +kernel
theorem dX5_link_46 : decode cX5_link 46 = .ok (.iconst (-1), 1) := by decide +kernel
theorem dX5_link_47 : decode cX5_link 47 = .ok (.ireturn, 1) := by decide +kernel
theorem dX5_link_48 : decode cX5_link 48 = .ok (.aload_n 0, 1) := by decide +kernel
theorem dX5_link_49 : decode cX5_link 49 = .ok (.getfield 46, 3) := by decide +kernel
theorem dX5_link_52 : decode cX5_link 52 = .ok (.aload_n 0, 1) := by decide +kernel
theorem dX5_link_53 : decode cX5_link 53 = .ok (.getfield 160, 3) := by decide +kernel
theorem dX5_link_56 : decode cX5_link 56 = .ok (.iload_n 1, 1) := by decide +kernel
theorem dX5_link_57 : decode cX5_link 57 = .ok (.iastore, 1) := by decide +kernel
theorem dX5_link_58 : decode cX5_link 58 = .ok (.aload_n 0, 1) := by decide +kernel
theorem dX5_link_59 : decode cX5_link 59 = .ok (.getfield 49, 3) := by decide +kernel
theorem dX5_link_62 : decode cX5_link 62 = .ok (.aload_n 0, 1) := by decide +kernel
theorem dX5_link_63 : decode cX5_link 63 = .ok (.getfield 160, 3) := by decide +kernel
theorem dX5_link_66 : decode cX5_link 66 = .ok (.iload_n 2, 1) := by decide +kernel
theorem dX5_link_67 : decode cX5_link 67 = .ok (.iastore, 1) := by decide +kernel
theorem dX5_link_68 : decode cX5_link 68 = .ok (.aload_n 0, 1) := by decide +kernel
theorem dX5_link_69 : decode cX5_link 69 = .ok (.dup, 1) := by decide +kernel
theorem dX5_link_70 : decode cX5_link 70 = .ok (.getfield 160, 3) := by decide +kernel
theorem dX5_link_73 : decode cX5_link 73 = .ok (.iconst 1, 1) := by decide +kernel
theorem dX5_link_74 : decode cX5_link 74 = .ok (.iadd, 1) := by decide +kernel
theorem dX5_link_75 : decode cX5_link 75 = .ok (.putfield 160, 3) := by decide +kernel
theorem dX5_link_78 : decode cX5_link 78 = .ok (.aload_n 0, 1) := by decide +kernel
theorem dX5_link_79 : decode cX5_link 79 = .ok (.getfield 160, 3) := by decide +kernel
theorem dX5_link_82 : decode cX5_link 82 = .ok (.iconst 1, 1) := by decide +kernel
theorem dX5_link_83 : decode cX5_link 83 = .ok (.isub, 1) := by decide +kernel
theorem dX5_link_84 : decode cX5_link 84 = .ok (.ireturn, 1) := by decide +kernel
theorem dX5_takes_0 : decode cX5_takes 0 = .ok (.aload_n 0, 1) := by decide +kernel
theorem dX5_takes_1 : decode cX5_takes 1 = .ok (.getfield 43, 3) := by decide +kernel
theorem dX5_takes_4 : decode cX5_takes 4 = .ok (.iload_n 1, 1) := by decide +kernel
theorem dX5_takes_5 : decode cX5_takes 5 = .ok (.dup2, 1) := by decide +kernel
theorem dX5_takes_6 : decode cX5_takes 6 = .ok (.iaload, 1) := by decide +kernel
theorem dX5_takes_7 : decode cX5_takes 7 = .ok (.iconst 1, 1) := by decide +kernel
theorem dX5_takes_8 : decode cX5_takes 8 = .ok (.iadd, 1) := by decide +kernel
theorem dX5_takes_9 : decode cX5_takes 9 = .ok (.iastore, 1) := by decide +kernel
theorem dX5_takes_10 : decode cX5_takes 10 = .ok (.aload_n 0, 1) := by decide +kernel
theorem dX5_takes_11 : decode cX5_takes 11 = .ok (.iload_n 1, 1) := by decide +kernel
theorem dX5_takes_12 : decode cX5_takes 12 = .ok (.aload_n 0, 1) := by decide +kernel
theorem dX5_takes_13 : decode cX5_takes 13 = .ok (.iload_n 1, 1) := by decide +kernel
theorem dX5_takes_14 : decode cX5_takes 14 = .ok (.iconst 3, 1) := by decide +kernel
theorem dX5_takes_15 : decode cX5_takes 15 = .ok (.invokevirtual 139, 3) := by decide +kernel
theorem dX5_takes_18 : decode cX5_takes 18 = .ok (.ifCond .eq 7, 3) := by decide +kernel
theorem dX5_takes_21 : decode cX5_takes 21 = .ok (.iconst 4, 1) := by decide +kernel
theorem dX5_takes_22 : decode cX5_takes 22 = .ok (.goto 18, 3) := by decide +kernel
theorem dX5_takes_25 : decode cX5_takes 25 = .ok (.aload_n 0, 1) := by decide +kernel
theorem dX5_takes_26 : decode cX5_takes 26 = .ok (.iload_n 1, 1) := by decide +kernel
theorem dX5_takes_27 : decode cX5_takes 27 = .ok (.iconst 2, 1) := by decide +kernel
theorem dX5_takes_28 : decode cX5_takes 28 = .ok (.invokevirtual 139, 3) := by decide +kernel
theorem dX5_takes_31 : decode cX5_takes 31 = .ok (.ifCond .eq 7, 3) := by decide +kernel
theorem dX5_takes_34 : decode cX5_takes 34 = .ok (.iconst 1, 1) := by decide +kernel
theorem dX5_takes_35 : decode cX5_takes 35 = .ok (.goto 5, 3) := by decide +kernel
theorem dX5_takes_38 : decode cX5_takes 38 = .ok (.bipush 6, 2) := by decide +kernel
theorem dX5_takes_40 : decode cX5_takes 40 = .ok (.iload_n 2, 1) := by decide +kernel
theorem dX5_takes_41 : decode cX5_takes 41 = .ok (.invokevirtual 157, 3) := by decide +kernel
theorem dX5_takes_44 : decode cX5_takes 44 = .ok (.ireturn, 1) := by decide +kernel
theorem dX5_pass_0 : decode cX5_pass 0 = .ok (.aload_n 0, 1) := by decide +kernel
theorem dX5_pass_1 : decode cX5_pass 1 = .ok (.iload_n 1, 1) := by decide +kernel
theorem dX5_pass_2 : decode cX5_pass 2 = .ok (.invokevirtual 129, 3) := by decide +kernel
theorem dX5_pass_5 : decode cX5_pass 5 = .ok (.ifCond .ne 9, 3) := by decide +kernel
theorem dX5_pass_8 : decode cX5_pass 8 = .ok (.aload_n 0, 1) := by decide +kernel
theorem dX5_pass_9 : decode cX5_pass 9 = .ok (.iconst 1, 1) := by decide +kernel
theorem dX5_pass_10 : decode cX5_pass 10 = .ok (.invokevirtual 151, 3) := by decide +kernel
theorem dX5_pass_13 : decode cX5_pass 13 = .ok (.ireturn, 1) := by decide +kernel
theorem dX5_pass_14 : decode cX5_pass 14 = .ok (.aload_n 0, 1) := by decide +kernel
theorem dX5_pass_15 : decode cX5_pass 15 = .ok (.invokevirtual 154, 3) := by decide +kernel
theorem dX5_pass_18 : decode cX5_pass 18 = .ok (.iconst 0, 1) := by decide +kernel
theorem dX5_pass_19 : decode cX5_pass 19 = .ok (.istore_n 3, 1) := by decide +kernel
theorem dX5_pass_20 : decode cX5_pass 20 = .ok (.iload_n 3, 1) := by decide +kernel
theorem dX5_pass_21 : decode cX5_pass 21 = .ok (.aload_n 0, 1) := by decide +kernel
theorem dX5_pass_22 : decode cX5_pass 22 = .ok (.getfield 123, 3) := by decide +kernel
theorem dX5_pass_25 : decode cX5_pass 25 = .ok (.if_icmp .ge 16, 3) := by decide +kernel
theorem dX5_pass_28 : decode cX5_pass 28 = .ok (.aload_n 0, 1) := by decide +kernel
theorem dX5_pass_29 : decode cX5_pass 29 = .ok (.getfield 58, 3) := by decide +kernel
theorem dX5_pass_32 : decode cX5_pass 32 = .ok (.iload_n 3, 1) := by decide +kernel
theorem dX5_pass_33 : decode cX5_pass 33 = .ok (.iconst 0, 1) := by decide +kernel
theorem dX5_pass_34 : decode cX5_pass 34 = .ok (.bastore, 1) := by decide +kernel
theorem dX5_pass_35 : decode cX5_pass 35 = .ok (.iinc 3 1, 3) := by decide +kernel
theorem dX5_pass_38 : decode cX5_pass 38 = .ok (.goto (-18), 3) := by decide +kernel
theorem dX5_pass_41 : decode cX5_pass 41 = .ok (.aload_n 0, 1) := by decide +kernel
theorem dX5_pass_42 : decode cX5_pass 42 = .ok (.getfield 52, 3) := by decide +kernel
theorem dX5_pass_45 : decode cX5_pass 45 = .ok (.iconst 0, 1) := by decide +kernel
theorem dX5_pass_46 : decode cX5_pass 46 = .ok (.iload_n 1, 1) := by decide +kernel
theorem dX5_pass_47 : decode cX5_pass 47 = .ok (.iastore, 1) := by decide +kernel
theorem dX5_pass_48 : decode cX5_pass 48 = .ok (.aload_n 0, 1) := by decide +kernel
theorem dX5_pass_49 : decode cX5_pass 49 = .ok (.getfield 58, 3) := by decide +kernel
theorem dX5_pass_52 : decode cX5_pass 52 = .ok (.iload_n 1, 1) := by decide +kernel
theorem dX5_pass_53 : decode cX5_pass 53 = .ok (.iconst 1, 1) := by decide +kernel
theorem dX5_pass_54 : decode cX5_pass 54 = .ok (.bastore, 1) := by decide +kernel
theorem dX5_pass_55 : decode cX5_pass 55 = .ok (.aload_n 0, 1) := by decide +kernel
theorem dX5_pass_56 : decode cX5_pass 56 = .ok (.getfield 55, 3) := by decide +kernel
theorem dX5_pass_59 : decode cX5_pass 59 = .ok (.iconst 0, 1) := by decide +kernel
theorem dX5_pass_60 : decode cX5_pass 60 = .ok (.aload_n 0, 1) := by decide +kernel
theorem dX5_pass_61 : decode cX5_pass 61 = .ok (.iload_n 1, 1) := by decide +kernel
theorem dX5_pass_62 : decode cX5_pass 62 = .ok (.iload_n 2, 1) := by decide +kernel
theorem dX5_pass_63 : decode cX5_pass 63 = .ok (.invokevirtual 163, 3) := by decide +kernel
theorem dX5_pass_66 : decode cX5_pass 66 = .ok (.iastore, 1) := by decide +kernel
theorem dX5_pass_67 : decode cX5_pass 67 = .ok (.iconst 1, 1) := by decide +kernel
theorem dX5_pass_68 : decode cX5_pass 68 = .ok (.istore_n 3, 1) := by decide +kernel
theorem dX5_pass_69 : decode cX5_pass 69 = .ok (.iconst 0, 1) := by decide +kernel
theorem dX5_pass_70 : decode cX5_pass 70 = .ok (.istore 4, 2) := by decide +kernel
theorem dX5_pass_72 : decode cX5_pass 72 = .ok (.iload 4, 2) := by decide +kernel
theorem dX5_pass_74 : decode cX5_pass 74 = .ok (.iload_n 3, 1) := by decide +kernel
theorem dX5_pass_75 : decode cX5_pass 75 = .ok (.if_icmp .ge 115, 3) := by decide +kernel
theorem dX5_pass_78 : decode cX5_pass 78 = .ok (.iconst 0, 1) := by decide +kernel
theorem dX5_pass_79 : decode cX5_pass 79 = .ok (.istore 5, 2) := by decide +kernel
theorem dX5_pass_81 : decode cX5_pass 81 = .ok (.iload 5, 2) := by decide +kernel
theorem dX5_pass_83 : decode cX5_pass 83 = .ok (.aload_n 0, 1) := by decide +kernel
theorem dX5_pass_84 : decode cX5_pass 84 = .ok (.getfield 160, 3) := by decide +kernel
theorem dX5_pass_87 : decode cX5_pass 87 = .ok (.if_icmp .ge 97, 3) := by decide +kernel
theorem dX5_pass_90 : decode cX5_pass 90 = .ok (.aload_n 0, 1) := by decide +kernel
theorem dX5_pass_91 : decode cX5_pass 91 = .ok (.getfield 46, 3) := by decide +kernel
theorem dX5_pass_94 : decode cX5_pass 94 = .ok (.iload 5, 2) := by decide +kernel
theorem dX5_pass_96 : decode cX5_pass 96 = .ok (.iaload, 1) := by decide +kernel
theorem dX5_pass_97 : decode cX5_pass 97 = .ok (.aload_n 0, 1) := by decide +kernel
theorem dX5_pass_98 : decode cX5_pass 98 = .ok (.getfield 52, 3) := by decide +kernel
theorem dX5_pass_101 : decode cX5_pass 101 = .ok (.iload 4, 2) := by decide +kernel
theorem dX5_pass_103 : decode cX5_pass 103 = .ok (.iaload, 1) := by decide +kernel
theorem dX5_pass_104 : decode cX5_pass 104 = .ok (.if_icmp .ne 74, 3) := by decide +kernel
theorem dX5_pass_107 : decode cX5_pass 107 = .ok (.aload_n 0, 1) := by decide +kernel
theorem dX5_pass_108 : decode cX5_pass 108 = .ok (.getfield 58, 3) := by decide +kernel
theorem dX5_pass_111 : decode cX5_pass 111 = .ok (.aload_n 0, 1) := by decide +kernel
theorem dX5_pass_112 : decode cX5_pass 112 = .ok (.getfield 49, 3) := by decide +kernel
theorem dX5_pass_115 : decode cX5_pass 115 = .ok (.iload 5, 2) := by decide +kernel
theorem dX5_pass_117 : decode cX5_pass 117 = .ok (.iaload, 1) := by decide +kernel
theorem dX5_pass_118 : decode cX5_pass 118 = .ok (.baload, 1) := by decide +kernel
theorem dX5_pass_119 : decode cX5_pass 119 = .ok (.ifCond .eq 6, 3) := by decide +kernel
theorem dX5_pass_122 : decode cX5_pass 122 = .ok (.goto 56, 3) := by decide +kernel
theorem dX5_pass_125 : decode cX5_pass 125 = .ok (.aload_n 0, 1) := by decide +kernel
theorem dX5_pass_126 : decode cX5_pass 126 = .ok (.getfield 58, 3) := by decide +kernel
theorem dX5_pass_129 : decode cX5_pass 129 = .ok (.aload_n 0, 1) := by decide +kernel
theorem dX5_pass_130 : decode cX5_pass 130 = .ok (.getfield 49, 3) := by decide +kernel
theorem dX5_pass_133 : decode cX5_pass 133 = .ok (.iload 5, 2) := by decide +kernel
theorem dX5_pass_135 : decode cX5_pass 135 = .ok (.iaload, 1) := by decide +kernel
theorem dX5_pass_136 : decode cX5_pass 136 = .ok (.iconst 1, 1) := by decide +kernel
theorem dX5_pass_137 : decode cX5_pass 137 = .ok (.bastore, 1) := by decide +kernel
theorem dX5_pass_138 : decode cX5_pass 138 = .ok (.aload_n 0, 1) := by decide +kernel
theorem dX5_pass_139 : decode cX5_pass 139 = .ok (.getfield 52, 3) := by decide +kernel
theorem dX5_pass_142 : decode cX5_pass 142 = .ok (.iload_n 3, 1) := by decide +kernel
theorem dX5_pass_143 : decode cX5_pass 143 = .ok (.aload_n 0, 1) := by decide +kernel
theorem dX5_pass_144 : decode cX5_pass 144 = .ok (.getfield 49, 3) := by decide +kernel
theorem dX5_pass_147 : decode cX5_pass 147 = .ok (.iload 5, 2) := by decide +kernel
theorem dX5_pass_149 : decode cX5_pass 149 = .ok (.iaload, 1) := by decide +kernel
theorem dX5_pass_150 : decode cX5_pass 150 = .ok (.iastore, 1) := by decide +kernel
theorem dX5_pass_151 : decode cX5_pass 151 = .ok (.aload_n 0, 1) := by decide +kernel
theorem dX5_pass_152 : decode cX5_pass 152 = .ok (.getfield 55, 3) := by decide +kernel
theorem dX5_pass_155 : decode cX5_pass 155 = .ok (.iload_n 3, 1) := by decide +kernel
theorem dX5_pass_156 : decode cX5_pass 156 = .ok (.aload_n 0, 1) := by decide +kernel
theorem dX5_pass_157 : decode cX5_pass 157 = .ok (.aload_n 0, 1) := by decide +kernel
theorem dX5_pass_158 : decode cX5_pass 158 = .ok (.getfield 49, 3) := by decide +kernel
theorem dX5_pass_161 : decode cX5_pass 161 = .ok (.iload 5, 2) := by decide +kernel
theorem dX5_pass_163 : decode cX5_pass 163 = .ok (.iaload, 1) := by decide +kernel
theorem dX5_pass_164 : decode cX5_pass 164 = .ok (.aload_n 0, 1) := by decide +kernel
theorem dX5_pass_165 : decode cX5_pass 165 = .ok (.getfield 55, 3) := by decide +kernel
theorem dX5_pass_168 : decode cX5_pass 168 = .ok (.iload 4, 2) := by decide +kernel
theorem dX5_pass_170 : decode cX5_pass 170 = .ok (.iaload, 1) := by decide +kernel
theorem dX5_pass_171 : decode cX5_pass 171 = .ok (.invokevirtual 163, 3) := by decide +kernel
theorem dX5_pass_174 : decode cX5_pass 174 = .ok (.iastore, 1) := by decide +kernel
theorem dX5_pass_175 : decode cX5_pass 175 = .ok (.iinc 3 1, 3) := by decide +kernel
theorem dX5_pass_178 : decode cX5_pass 178 = .ok (.iinc 5 1, 3) := by decide +kernel
theorem dX5_pass_181 : decode cX5_pass 181 = .ok (.goto (-100), 3) := by decide +kernel
theorem dX5_pass_184 : decode cX5_pass 184 = .ok (.iinc 4 1, 3) := by decide +kernel
theorem dX5_pass_187 : decode cX5_pass 187 = .ok (.goto (-115), 3) := by decide +kernel
theorem dX5_pass_190 : decode cX5_pass 190 = .ok (.iload_n 3, 1) := by decide +kernel
theorem dX5_pass_191 : decode cX5_pass 191 = .ok (.ireturn, 1) := by decide +kernel
theorem dX5_able_0 : decode cX5_able 0 = .ok (.aload_n 0, 1) := by decide +kernel
theorem dX5_able_1 : decode cX5_able 1 = .ok (.iload_n 1, 1) := by decide +kernel
theorem dX5_able_2 : decode cX5_able 2 = .ok (.invokevirtual 129, 3) := by decide +kernel
theorem dX5_able_5 : decode cX5_able 5 = .ok (.ifCond .eq 10, 3) := by decide +kernel
theorem dX5_able_8 : decode cX5_able 8 = .ok (.iload_n 2, 1) := by decide +kernel
theorem dX5_able_9 : decode cX5_able 9 = .ok (.invokestatic 136, 3) := by decide +kernel
theorem dX5_able_12 : decode cX5_able 12 = .ok (.ifCond .ne 7, 3) := by decide +kernel
theorem dX5_able_15 : decode cX5_able 15 = .ok (.iconst (-1), 1) := by decide +kernel
theorem dX5_able_16 : decode cX5_able 16 = .ok (.goto 17, 3) := by decide +kernel
theorem dX5_able_19 : decode cX5_able 19 = .ok (.aload_n 0, 1) := by decide +kernel
theorem dX5_able_20 : decode cX5_able 20 = .ok (.iload_n 1, 1) := by decide +kernel
theorem dX5_able_21 : decode cX5_able 21 = .ok (.iload_n 2, 1) := by decide +kernel
theorem dX5_able_22 : decode cX5_able 22 = .ok (.invokevirtual 139, 3) := by decide +kernel
theorem dX5_able_25 : decode cX5_able 25 = .ok (.ifCond .eq 7, 3) := by decide +kernel
theorem dX5_able_28 : decode cX5_able 28 = .ok (.iconst 1, 1) := by decide +kernel
theorem dX5_able_29 : decode cX5_able 29 = .ok (.goto 4, 3) := by decide +kernel
theorem dX5_able_32 : decode cX5_able 32 = .ok (.iconst 0, 1) := by decide +kernel
theorem dX5_able_33 : decode cX5_able 33 = .ok (.ireturn, 1) := by decide +kernel
theorem dX5_chain_0 : decode cX5_chain 0 = .ok (.iload_n 1, 1) := by decide +kernel
theorem dX5_chain_1 : decode cX5_chain 1 = .ok (.ifCond .lt 17, 3) := by decide +kernel
theorem dX5_chain_4 : decode cX5_chain 4 = .ok (.iload_n 1, 1) := by decide +kernel
theorem dX5_chain_5 : decode cX5_chain 5 = .ok (.bipush 64, 2) := by decide +kernel
theorem dX5_chain_7 : decode cX5_chain 7 = .ok (.if_icmp .ge 11, 3) := by decide +kernel
theorem dX5_chain_10 : decode cX5_chain 10 = .ok (.iload_n 1, 1) := by decide +kernel
theorem dX5_chain_11 : decode cX5_chain 11 = .ok (.aload_n 0, 1) := by decide +kernel
theorem dX5_chain_12 : decode cX5_chain 12 = .ok (.getfield 102, 3) := by decide +kernel
theorem dX5_chain_15 : decode cX5_chain 15 = .ok (.if_icmp .lt 7, 3) := by decide +kernel
theorem dX5_chain_18 : decode cX5_chain 18 = .ok (.iconst (-1), 1) := by decide +kernel
theorem dX5_chain_19 : decode cX5_chain 19 = .ok (.goto 9, 3) := by decide +kernel
theorem dX5_chain_22 : decode cX5_chain 22 = .ok (.aload_n 0, 1) := by decide +kernel
theorem dX5_chain_23 : decode cX5_chain 23 = .ok (.getfield 62, 3) := by decide +kernel
theorem dX5_chain_26 : decode cX5_chain 26 = .ok (.iload_n 1, 1) := by decide +kernel
theorem dX5_chain_27 : decode cX5_chain 27 = .ok (.iaload, 1) := by decide +kernel
theorem dX5_chain_28 : decode cX5_chain 28 = .ok (.ireturn, 1) := by decide +kernel
theorem dX5_ran_0 : decode cX5_ran 0 = .ok (.aload_n 0, 1) := by decide +kernel
theorem dX5_ran_1 : decode cX5_ran 1 = .ok (.getfield 102, 3) := by decide +kernel
theorem dX5_ran_4 : decode cX5_ran 4 = .ok (.ireturn, 1) := by decide +kernel
theorem dX5_state_0 : decode cX5_state 0 = .ok (.aload_n 0, 1) := by decide +kernel
theorem dX5_state_1 : decode cX5_state 1 = .ok (.iload_n 1, 1) := by decide +kernel
theorem dX5_state_2 : decode cX5_state 2 = .ok (.invokevirtual 129, 3) := by decide +kernel
theorem dX5_state_5 : decode cX5_state 5 = .ok (.ifCond .eq 12, 3) := by decide +kernel
theorem dX5_state_8 : decode cX5_state 8 = .ok (.iload_n 2, 1) := by decide +kernel
theorem dX5_state_9 : decode cX5_state 9 = .ok (.ifCond .lt 8, 3) := by decide +kernel
theorem dX5_state_12 : decode cX5_state 12 = .ok (.iload_n 2, 1) := by decide +kernel
theorem dX5_state_13 : decode cX5_state 13 = .ok (.iconst 5, 1) := by decide +kernel
theorem dX5_state_14 : decode cX5_state 14 = .ok (.if_icmp .le 9, 3) := by decide +kernel
theorem dX5_state_17 : decode cX5_state 17 = .ok (.aload_n 0, 1) := by decide +kernel
theorem dX5_state_18 : decode cX5_state 18 = .ok (.iconst 1, 1) := by decide +kernel
theorem dX5_state_19 : decode cX5_state 19 = .ok (.invokevirtual 151, 3) := by decide +kernel
theorem dX5_state_22 : decode cX5_state 22 = .ok (.ireturn, 1) := by decide +kernel
theorem dX5_state_23 : decode cX5_state 23 = .ok (.aload_n 0, 1) := by decide +kernel
theorem dX5_state_24 : decode cX5_state 24 = .ok (.iconst 0, 1) := by decide +kernel
theorem dX5_state_25 : decode cX5_state 25 = .ok (.putfield 126, 3) := by decide +kernel
theorem dX5_state_28 : decode cX5_state 28 = .ok (.iload_n 2, 1) := by decide +kernel
theorem dX5_state_29 : decode cX5_state 29 = .ok (.ifCond .ne 10, 3) := by decide +kernel
theorem dX5_state_32 : decode cX5_state 32 = .ok (.aload_n 0, 1) := by decide +kernel
theorem dX5_state_33 : decode cX5_state 33 = .ok (.getfield 34, 3) := by decide +kernel
theorem dX5_state_36 : decode cX5_state 36 = .ok (.iload_n 1, 1) := by decide +kernel
theorem dX5_state_37 : decode cX5_state 37 = .ok (.iaload, 1) := by decide +kernel
theorem dX5_state_38 : decode cX5_state 38 = .ok (.ireturn, 1) := by decide +kernel
theorem dX5_state_39 : decode cX5_state 39 = .ok (.iload_n 2, 1) := by decide +kernel
theorem dX5_state_40 : decode cX5_state 40 = .ok (.iconst 1, 1) := by decide +kernel
theorem dX5_state_41 : decode cX5_state 41 = .ok (.if_icmp .ne 10, 3) := by decide +kernel
theorem dX5_state_44 : decode cX5_state 44 = .ok (.aload_n 0, 1) := by decide +kernel
theorem dX5_state_45 : decode cX5_state 45 = .ok (.getfield 37, 3) := by decide +kernel
theorem dX5_state_48 : decode cX5_state 48 = .ok (.iload_n 1, 1) := by decide +kernel
theorem dX5_state_49 : decode cX5_state 49 = .ok (.iaload, 1) := by decide +kernel
theorem dX5_state_50 : decode cX5_state 50 = .ok (.ireturn, 1) := by decide +kernel
theorem dX5_state_51 : decode cX5_state 51 = .ok (.iload_n 2, 1) := by decide +kernel
theorem dX5_state_52 : decode cX5_state 52 = .ok (.iconst 2, 1) := by decide +kernel
theorem dX5_state_53 : decode cX5_state 53 = .ok (.if_icmp .ne 10, 3) := by decide +kernel
theorem dX5_state_56 : decode cX5_state 56 = .ok (.aload_n 0, 1) := by decide +kernel
theorem dX5_state_57 : decode cX5_state 57 = .ok (.getfield 40, 3) := by decide +kernel
theorem dX5_state_60 : decode cX5_state 60 = .ok (.iload_n 1, 1) := by decide +kernel
theorem dX5_state_61 : decode cX5_state 61 = .ok (.iaload, 1) := by decide +kernel
theorem dX5_state_62 : decode cX5_state 62 = .ok (.ireturn, 1) := by decide +kernel
theorem dX5_state_63 : decode cX5_state 63 = .ok (.iload_n 2, 1) := by decide +kernel
theorem dX5_state_64 : decode cX5_state 64 = .ok (.iconst 5, 1) := by decide +kernel
theorem dX5_state_65 : decode cX5_state 65 = .ok (.if_icmp .ne 10, 3) := by decide +kernel
theorem dX5_state_68 : decode cX5_state 68 = .ok (.aload_n 0, 1) := by decide +kernel
theorem dX5_state_69 : decode cX5_state 69 = .ok (.getfield 43, 3) := by decide +kernel
theorem dX5_state_72 : decode cX5_state 72 = .ok (.iload_n 1, 1) := by decide +kernel
theorem dX5_state_73 : decode cX5_state 73 = .ok (.iaload, 1) := by decide +kernel
theorem dX5_state_74 : decode cX5_state 74 = .ok (.ireturn, 1) := by decide +kernel
theorem dX5_state_75 : decode cX5_state 75 = .ok (.iconst 0, 1) := by decide +kernel
theorem dX5_state_76 : decode cX5_state 76 = .ok (.istore_n 3, 1) := by decide +kernel
theorem dX5_state_77 : decode cX5_state 77 = .ok (.iconst 0, 1) := by decide +kernel
theorem dX5_state_78 : decode cX5_state 78 = .ok (.istore 4, 2) := by decide +kernel
theorem dX5_state_80 : decode cX5_state 80 = .ok (.iload 4, 2) := by decide +kernel
theorem dX5_state_82 : decode cX5_state 82 = .ok (.aload_n 0, 1) := by decide +kernel
theorem dX5_state_83 : decode cX5_state 83 = .ok (.getfield 160, 3) := by decide +kernel
theorem dX5_state_86 : decode cX5_state 86 = .ok (.if_icmp .ge 38, 3) := by decide +kernel
theorem dX5_state_89 : decode cX5_state 89 = .ok (.iload_n 2, 1) := by decide +kernel
theorem dX5_state_90 : decode cX5_state 90 = .ok (.iconst 3, 1) := by decide +kernel
theorem dX5_state_91 : decode cX5_state 91 = .ok (.if_icmp .ne 13, 3) := by decide +kernel
theorem dX5_state_94 : decode cX5_state 94 = .ok (.aload_n 0, 1) := by decide +kernel
theorem dX5_state_95 : decode cX5_state 95 = .ok (.getfield 46, 3) := by decide +kernel
theorem dX5_state_98 : decode cX5_state 98 = .ok (.iload 4, 2) := by decide +kernel
theorem dX5_state_100 : decode cX5_state 100 = .ok (.iaload, 1) := by decide +kernel
theorem dX5_state_101 : decode cX5_state 101 = .ok (.goto 10, 3) := by decide +kernel
theorem dX5_state_104 : decode cX5_state 104 = .ok (.aload_n 0, 1) := by decide +kernel
theorem dX5_state_105 : decode cX5_state 105 = .ok (.getfield 49, 3) := by decide +kernel
theorem dX5_state_108 : decode cX5_state 108 = .ok (.iload 4, 2) := by decide +kernel
theorem dX5_state_110 : decode cX5_state 110 = .ok (.iaload, 1) := by decide +kernel
theorem dX5_state_111 : decode cX5_state 111 = .ok (.iload_n 1, 1) := by decide +kernel
theorem dX5_state_112 : decode cX5_state 112 = .ok (.if_icmp .ne 6, 3) := by decide +kernel
theorem dX5_state_115 : decode cX5_state 115 = .ok (.iinc 3 1, 3) := by decide +kernel
theorem dX5_state_118 : decode cX5_state 118 = .ok (.iinc 4 1, 3) := by decide +kernel
theorem dX5_state_121 : decode cX5_state 121 = .ok (.goto (-41), 3) := by decide +kernel
theorem dX5_state_124 : decode cX5_state 124 = .ok (.iload_n 3, 1) := by decide +kernel
theorem dX5_state_125 : decode cX5_state 125 = .ok (.ireturn, 1) := by decide +kernel
theorem dX5_size_0 : decode cX5_size 0 = .ok (.iload_n 1, 1) := by decide +kernel
theorem dX5_size_1 : decode cX5_size 1 = .ok (.ifCond .lt 9, 3) := by decide +kernel
theorem dX5_size_4 : decode cX5_size 4 = .ok (.iload_n 1, 1) := by decide +kernel
theorem dX5_size_5 : decode cX5_size 5 = .ok (.bipush 7, 2) := by decide +kernel
theorem dX5_size_7 : decode cX5_size 7 = .ok (.if_icmp .lt 5, 3) := by decide +kernel
theorem dX5_size_10 : decode cX5_size 10 = .ok (.iconst (-1), 1) := by decide +kernel
theorem dX5_size_11 : decode cX5_size 11 = .ok (.ireturn, 1) := by decide +kernel
theorem dX5_size_12 : decode cX5_size 12 = .ok (.iload_n 1, 1) := by decide +kernel
theorem dX5_size_13 : decode cX5_size 13 = .ok (.iconst 2, 1) := by decide +kernel
theorem dX5_size_14 : decode cX5_size 14 = .ok (.if_icmp .ge 19, 3) := by decide +kernel
theorem dX5_size_17 : decode cX5_size 17 = .ok (.iload_n 1, 1) := by decide +kernel
theorem dX5_size_18 : decode cX5_size 18 = .ok (.ifCond .ne 10, 3) := by decide +kernel
theorem dX5_size_21 : decode cX5_size 21 = .ok (.aload_n 0, 1) := by decide +kernel
theorem dX5_size_22 : decode cX5_size 22 = .ok (.getfield 123, 3) := by decide +kernel
theorem dX5_size_25 : decode cX5_size 25 = .ok (.goto 7, 3) := by decide +kernel
theorem dX5_size_28 : decode cX5_size 28 = .ok (.aload_n 0, 1) := by decide +kernel
theorem dX5_size_29 : decode cX5_size 29 = .ok (.getfield 160, 3) := by decide +kernel
theorem dX5_size_32 : decode cX5_size 32 = .ok (.ireturn, 1) := by decide +kernel
theorem dX5_size_33 : decode cX5_size 33 = .ok (.iconst 0, 1) := by decide +kernel
theorem dX5_size_34 : decode cX5_size 34 = .ok (.istore_n 2, 1) := by decide +kernel
theorem dX5_size_35 : decode cX5_size 35 = .ok (.iconst 0, 1) := by decide +kernel
theorem dX5_size_36 : decode cX5_size 36 = .ok (.istore_n 3, 1) := by decide +kernel
theorem dX5_size_37 : decode cX5_size 37 = .ok (.iload_n 3, 1) := by decide +kernel
theorem dX5_size_38 : decode cX5_size 38 = .ok (.aload_n 0, 1) := by decide +kernel
theorem dX5_size_39 : decode cX5_size 39 = .ok (.getfield 123, 3) := by decide +kernel
theorem dX5_size_42 : decode cX5_size 42 = .ok (.if_icmp .ge 21, 3) := by decide +kernel
theorem dX5_size_45 : decode cX5_size 45 = .ok (.aload_n 0, 1) := by decide +kernel
theorem dX5_size_46 : decode cX5_size 46 = .ok (.iload_n 3, 1) := by decide +kernel
theorem dX5_size_47 : decode cX5_size 47 = .ok (.iload_n 1, 1) := by decide +kernel
theorem dX5_size_48 : decode cX5_size 48 = .ok (.invokevirtual 139, 3) := by decide +kernel
theorem dX5_size_51 : decode cX5_size 51 = .ok (.ifCond .eq 6, 3) := by decide +kernel
theorem dX5_size_54 : decode cX5_size 54 = .ok (.iinc 2 1, 3) := by decide +kernel
theorem dX5_size_57 : decode cX5_size 57 = .ok (.iinc 3 1, 3) := by decide +kernel
theorem dX5_size_60 : decode cX5_size 60 = .ok (.goto (-23), 3) := by decide +kernel
theorem dX5_size_63 : decode cX5_size 63 = .ok (.iload_n 2, 1) := by decide +kernel
theorem dX5_size_64 : decode cX5_size 64 = .ok (.ireturn, 1) := by decide +kernel
theorem dX5_status_0 : decode cX5_status 0 = .ok (.aload_n 0, 1) := by decide +kernel
theorem dX5_status_1 : decode cX5_status 1 = .ok (.getfield 126, 3) := by decide +kernel
theorem dX5_status_4 : decode cX5_status 4 = .ok (.ireturn, 1) := by decide +kernel
theorem dL_law_0 : decode cL_law 0 = .ok (.new 7, 3) := by decide +kernel
theorem dL_law_3 : decode cL_law 3 = .ok (.dup, 1) := by decide +kernel
theorem dL_law_4 : decode cL_law 4 = .ok (.invokespecial 9, 3) := by decide +kernel
theorem dL_law_7 : decode cL_law 7 = .ok (.astore_n 1, 1) := by decide +kernel
theorem dL_law_8 : decode cL_law 8 = .ok (.new 10, 3) := by decide +kernel
theorem dL_law_11 : decode cL_law 11 = .ok (.dup, 1) := by decide +kernel
theorem dL_law_12 : decode cL_law 12 = .ok (.invokespecial 12, 3) := by decide +kernel
theorem dL_law_15 : decode cL_law 15 = .ok (.astore_n 2, 1) := by decide +kernel
theorem dL_law_16 : decode cL_law 16 = .ok (.iconst 0, 1) := by decide +kernel
theorem dL_law_17 : decode cL_law 17 = .ok (.istore_n 3, 1) := by decide +kernel
theorem dL_law_18 : decode cL_law 18 = .ok (.iload_n 3, 1) := by decide +kernel
theorem dL_law_19 : decode cL_law 19 = .ok (.aload_n 0, 1) := by decide +kernel
theorem dL_law_20 : decode cL_law 20 = .ok (.arraylength, 1) := by decide +kernel
theorem dL_law_21 : decode cL_law 21 = .ok (.iconst 5, 1) := by decide +kernel
theorem dL_law_22 : decode cL_law 22 = .ok (.isub, 1) := by decide +kernel
theorem dL_law_23 : decode cL_law 23 = .ok (.if_icmp .gt 445, 3) := by decide +kernel
theorem dL_law_26 : decode cL_law 26 = .ok (.aload_n 0, 1) := by decide +kernel
theorem dL_law_27 : decode cL_law 27 = .ok (.iload_n 3, 1) := by decide +kernel
theorem dL_law_28 : decode cL_law 28 = .ok (.iaload, 1) := by decide +kernel
theorem dL_law_29 : decode cL_law 29 = .ok (.bipush 15, 2) := by decide +kernel
theorem dL_law_31 : decode cL_law 31 = .ok (.iand, 1) := by decide +kernel
theorem dL_law_32 : decode cL_law 32 = .ok (.tableswitch 430 0 11 #[64, 97, 150, 193, 226, 259, 292, 325, 348, 361, 394, 417], 64) := by decide +kernel
theorem dL_law_96 : decode cL_law 96 = .ok (.aload_n 1, 1) := by decide +kernel
theorem dL_law_97 : decode cL_law 97 = .ok (.aload_n 0, 1) := by decide +kernel
theorem dL_law_98 : decode cL_law 98 = .ok (.iload_n 3, 1) := by decide +kernel
theorem dL_law_99 : decode cL_law 99 = .ok (.iconst 1, 1) := by decide +kernel
theorem dL_law_100 : decode cL_law 100 = .ok (.iadd, 1) := by decide +kernel
theorem dL_law_101 : decode cL_law 101 = .ok (.iaload, 1) := by decide +kernel
theorem dL_law_102 : decode cL_law 102 = .ok (.aload_n 0, 1) := by decide +kernel
theorem dL_law_103 : decode cL_law 103 = .ok (.iload_n 3, 1) := by decide +kernel
theorem dL_law_104 : decode cL_law 104 = .ok (.iconst 2, 1) := by decide +kernel
theorem dL_law_105 : decode cL_law 105 = .ok (.iadd, 1) := by decide +kernel
theorem dL_law_106 : decode cL_law 106 = .ok (.iaload, 1) := by decide +kernel
theorem dL_law_107 : decode cL_law 107 = .ok (.invokevirtual 13, 3) := by decide +kernel
theorem dL_law_110 : decode cL_law 110 = .ok (.aload_n 2, 1) := by decide +kernel
theorem dL_law_111 : decode cL_law 111 = .ok (.aload_n 0, 1) := by decide +kernel
theorem dL_law_112 : decode cL_law 112 = .ok (.iload_n 3, 1) := by decide +kernel
theorem dL_law_113 : decode cL_law 113 = .ok (.iconst 1, 1) := by decide +kernel
theorem dL_law_114 : decode cL_law 114 = .ok (.iadd, 1) := by decide +kernel
theorem dL_law_115 : decode cL_law 115 = .ok (.iaload, 1) := by decide +kernel
theorem dL_law_116 : decode cL_law 116 = .ok (.aload_n 0, 1) := by decide +kernel
theorem dL_law_117 : decode cL_law 117 = .ok (.iload_n 3, 1) := by decide +kernel
theorem dL_law_118 : decode cL_law 118 = .ok (.iconst 2, 1) := by decide +kernel
theorem dL_law_119 : decode cL_law 119 = .ok (.iadd, 1) := by decide +kernel
theorem dL_law_120 : decode cL_law 120 = .ok (.iaload, 1) := by decide +kernel
theorem dL_law_121 : decode cL_law 121 = .ok (.invokevirtual 17, 3) := by decide +kernel
theorem dL_law_124 : decode cL_law 124 = .ok (.if_icmp .eq 338, 3) := by decide +kernel
theorem dL_law_127 : decode cL_law 127 = .ok (.iconst 0, 1) := by decide +kernel
theorem dL_law_128 : decode cL_law 128 = .ok (.ireturn, 1) := by decide +kernel
theorem dL_law_129 : decode cL_law 129 = .ok (.aload_n 1, 1) := by decide +kernel
theorem dL_law_130 : decode cL_law 130 = .ok (.aload_n 0, 1) := by decide +kernel
theorem dL_law_131 : decode cL_law 131 = .ok (.iload_n 3, 1) := by decide +kernel
theorem dL_law_132 : decode cL_law 132 = .ok (.iconst 1, 1) := by decide +kernel
theorem dL_law_133 : decode cL_law 133 = .ok (.iadd, 1) := by decide +kernel
theorem dL_law_134 : decode cL_law 134 = .ok (.iaload, 1) := by decide +kernel
theorem dL_law_135 : decode cL_law 135 = .ok (.aload_n 0, 1) := by decide +kernel
theorem dL_law_136 : decode cL_law 136 = .ok (.iload_n 3, 1) := by decide +kernel
theorem dL_law_137 : decode cL_law 137 = .ok (.iconst 2, 1) := by decide +kernel
theorem dL_law_138 : decode cL_law 138 = .ok (.iadd, 1) := by decide +kernel
theorem dL_law_139 : decode cL_law 139 = .ok (.iaload, 1) := by decide +kernel
theorem dL_law_140 : decode cL_law 140 = .ok (.aload_n 0, 1) := by decide +kernel
theorem dL_law_141 : decode cL_law 141 = .ok (.iload_n 3, 1) := by decide +kernel
theorem dL_law_142 : decode cL_law 142 = .ok (.iconst 3, 1) := by decide +kernel
theorem dL_law_143 : decode cL_law 143 = .ok (.iadd, 1) := by decide +kernel
theorem dL_law_144 : decode cL_law 144 = .ok (.iaload, 1) := by decide +kernel
theorem dL_law_145 : decode cL_law 145 = .ok (.aload_n 0, 1) := by decide +kernel
theorem dL_law_146 : decode cL_law 146 = .ok (.iload_n 3, 1) := by decide +kernel
theorem dL_law_147 : decode cL_law 147 = .ok (.iconst 4, 1) := by decide +kernel
theorem dL_law_148 : decode cL_law 148 = .ok (.iadd, 1) := by decide +kernel
theorem dL_law_149 : decode cL_law 149 = .ok (.iaload, 1) := by decide +kernel
theorem dL_law_150 : decode cL_law 150 = .ok (.invokevirtual 18, 3) := by decide +kernel
theorem dL_law_153 : decode cL_law 153 = .ok (.aload_n 2, 1) := by decide +kernel
theorem dL_law_154 : decode cL_law 154 = .ok (.aload_n 0, 1) := by decide +kernel
theorem dL_law_155 : decode cL_law 155 = .ok (.iload_n 3, 1) := by decide +kernel
theorem dL_law_156 : decode cL_law 156 = .ok (.iconst 1, 1) := by decide +kernel
theorem dL_law_157 : decode cL_law 157 = .ok (.iadd, 1) := by decide +kernel
theorem dL_law_158 : decode cL_law 158 = .ok (.iaload, 1) := by decide +kernel
theorem dL_law_159 : decode cL_law 159 = .ok (.aload_n 0, 1) := by decide +kernel
theorem dL_law_160 : decode cL_law 160 = .ok (.iload_n 3, 1) := by decide +kernel
theorem dL_law_161 : decode cL_law 161 = .ok (.iconst 2, 1) := by decide +kernel
theorem dL_law_162 : decode cL_law 162 = .ok (.iadd, 1) := by decide +kernel
theorem dL_law_163 : decode cL_law 163 = .ok (.iaload, 1) := by decide +kernel
theorem dL_law_164 : decode cL_law 164 = .ok (.aload_n 0, 1) := by decide +kernel
theorem dL_law_165 : decode cL_law 165 = .ok (.iload_n 3, 1) := by decide +kernel
theorem dL_law_166 : decode cL_law 166 = .ok (.iconst 3, 1) := by decide +kernel
theorem dL_law_167 : decode cL_law 167 = .ok (.iadd, 1) := by decide +kernel
theorem dL_law_168 : decode cL_law 168 = .ok (.iaload, 1) := by decide +kernel
theorem dL_law_169 : decode cL_law 169 = .ok (.aload_n 0, 1) := by decide +kernel
theorem dL_law_170 : decode cL_law 170 = .ok (.iload_n 3, 1) := by decide +kernel
theorem dL_law_171 : decode cL_law 171 = .ok (.iconst 4, 1) := by decide +kernel
theorem dL_law_172 : decode cL_law 172 = .ok (.iadd, 1) := by decide +kernel
theorem dL_law_173 : decode cL_law 173 = .ok (.iaload, 1) := by decide +kernel
theorem dL_law_174 : decode cL_law 174 = .ok (.invokevirtual 22, 3) := by decide +kernel
theorem dL_law_177 : decode cL_law 177 = .ok (.if_icmp .eq 285, 3) := by decide +kernel
theorem dL_law_180 : decode cL_law 180 = .ok (.iconst 0, 1) := by decide +kernel
theorem dL_law_181 : decode cL_law 181 = .ok (.ireturn, 1) := by decide +kernel
theorem dL_law_182 : decode cL_law 182 = .ok (.aload_n 1, 1) := by decide +kernel
theorem dL_law_183 : decode cL_law 183 = .ok (.aload_n 0, 1) := by decide +kernel
theorem dL_law_184 : decode cL_law 184 = .ok (.iload_n 3, 1) := by decide +kernel
theorem dL_law_185 : decode cL_law 185 = .ok (.iconst 1, 1) := by decide +kernel
theorem dL_law_186 : decode cL_law 186 = .ok (.iadd, 1) := by decide +kernel
theorem dL_law_187 : decode cL_law 187 = .ok (.iaload, 1) := by decide +kernel
theorem dL_law_188 : decode cL_law 188 = .ok (.aload_n 0, 1) := by decide +kernel
theorem dL_law_189 : decode cL_law 189 = .ok (.iload_n 3, 1) := by decide +kernel
theorem dL_law_190 : decode cL_law 190 = .ok (.iconst 2, 1) := by decide +kernel
theorem dL_law_191 : decode cL_law 191 = .ok (.iadd, 1) := by decide +kernel
theorem dL_law_192 : decode cL_law 192 = .ok (.iaload, 1) := by decide +kernel
theorem dL_law_193 : decode cL_law 193 = .ok (.aload_n 0, 1) := by decide +kernel
theorem dL_law_194 : decode cL_law 194 = .ok (.iload_n 3, 1) := by decide +kernel
theorem dL_law_195 : decode cL_law 195 = .ok (.iconst 3, 1) := by decide +kernel
theorem dL_law_196 : decode cL_law 196 = .ok (.iadd, 1) := by decide +kernel
theorem dL_law_197 : decode cL_law 197 = .ok (.iaload, 1) := by decide +kernel
theorem dL_law_198 : decode cL_law 198 = .ok (.invokevirtual 23, 3) := by decide +kernel
theorem dL_law_201 : decode cL_law 201 = .ok (.aload_n 2, 1) := by decide +kernel
theorem dL_law_202 : decode cL_law 202 = .ok (.aload_n 0, 1) := by decide +kernel
theorem dL_law_203 : decode cL_law 203 = .ok (.iload_n 3, 1) := by decide +kernel
theorem dL_law_204 : decode cL_law 204 = .ok (.iconst 1, 1) := by decide +kernel
theorem dL_law_205 : decode cL_law 205 = .ok (.iadd, 1) := by decide +kernel
theorem dL_law_206 : decode cL_law 206 = .ok (.iaload, 1) := by decide +kernel
theorem dL_law_207 : decode cL_law 207 = .ok (.aload_n 0, 1) := by decide +kernel
theorem dL_law_208 : decode cL_law 208 = .ok (.iload_n 3, 1) := by decide +kernel
theorem dL_law_209 : decode cL_law 209 = .ok (.iconst 2, 1) := by decide +kernel
theorem dL_law_210 : decode cL_law 210 = .ok (.iadd, 1) := by decide +kernel
theorem dL_law_211 : decode cL_law 211 = .ok (.iaload, 1) := by decide +kernel
theorem dL_law_212 : decode cL_law 212 = .ok (.aload_n 0, 1) := by decide +kernel
theorem dL_law_213 : decode cL_law 213 = .ok (.iload_n 3, 1) := by decide +kernel
theorem dL_law_214 : decode cL_law 214 = .ok (.iconst 3, 1) := by decide +kernel
theorem dL_law_215 : decode cL_law 215 = .ok (.iadd, 1) := by decide +kernel
theorem dL_law_216 : decode cL_law 216 = .ok (.iaload, 1) := by decide +kernel
theorem dL_law_217 : decode cL_law 217 = .ok (.invokevirtual 27, 3) := by decide +kernel
theorem dL_law_220 : decode cL_law 220 = .ok (.if_icmp .eq 242, 3) := by decide +kernel
theorem dL_law_223 : decode cL_law 223 = .ok (.iconst 0, 1) := by decide +kernel
theorem dL_law_224 : decode cL_law 224 = .ok (.ireturn, 1) := by decide +kernel
theorem dL_law_225 : decode cL_law 225 = .ok (.aload_n 1, 1) := by decide +kernel
theorem dL_law_226 : decode cL_law 226 = .ok (.aload_n 0, 1) := by decide +kernel
theorem dL_law_227 : decode cL_law 227 = .ok (.iload_n 3, 1) := by decide +kernel
theorem dL_law_228 : decode cL_law 228 = .ok (.iconst 1, 1) := by decide +kernel
theorem dL_law_229 : decode cL_law 229 = .ok (.iadd, 1) := by decide +kernel
theorem dL_law_230 : decode cL_law 230 = .ok (.iaload, 1) := by decide +kernel
theorem dL_law_231 : decode cL_law 231 = .ok (.aload_n 0, 1) := by decide +kernel
theorem dL_law_232 : decode cL_law 232 = .ok (.iload_n 3, 1) := by decide +kernel
theorem dL_law_233 : decode cL_law 233 = .ok (.iconst 2, 1) := by decide +kernel
theorem dL_law_234 : decode cL_law 234 = .ok (.iadd, 1) := by decide +kernel
theorem dL_law_235 : decode cL_law 235 = .ok (.iaload, 1) := by decide +kernel
theorem dL_law_236 : decode cL_law 236 = .ok (.invokevirtual 28, 3) := by decide +kernel
theorem dL_law_239 : decode cL_law 239 = .ok (.aload_n 2, 1) := by decide +kernel
theorem dL_law_240 : decode cL_law 240 = .ok (.aload_n 0, 1) := by decide +kernel
theorem dL_law_241 : decode cL_law 241 = .ok (.iload_n 3, 1) := by decide +kernel
theorem dL_law_242 : decode cL_law 242 = .ok (.iconst 1, 1) := by decide +kernel
theorem dL_law_243 : decode cL_law 243 = .ok (.iadd, 1) := by decide +kernel
theorem dL_law_244 : decode cL_law 244 = .ok (.iaload, 1) := by decide +kernel
theorem dL_law_245 : decode cL_law 245 = .ok (.aload_n 0, 1) := by decide +kernel
theorem dL_law_246 : decode cL_law 246 = .ok (.iload_n 3, 1) := by decide +kernel
theorem dL_law_247 : decode cL_law 247 = .ok (.iconst 2, 1) := by decide +kernel
theorem dL_law_248 : decode cL_law 248 = .ok (.iadd, 1) := by decide +kernel
theorem dL_law_249 : decode cL_law 249 = .ok (.iaload, 1) := by decide +kernel
theorem dL_law_250 : decode cL_law 250 = .ok (.invokevirtual 31, 3) := by decide +kernel
theorem dL_law_253 : decode cL_law 253 = .ok (.if_icmp .eq 209, 3) := by decide +kernel
theorem dL_law_256 : decode cL_law 256 = .ok (.iconst 0, 1) := by decide +kernel
theorem dL_law_257 : decode cL_law 257 = .ok (.ireturn, 1) := by decide +kernel
theorem dL_law_258 : decode cL_law 258 = .ok (.aload_n 1, 1) := by decide +kernel
theorem dL_law_259 : decode cL_law 259 = .ok (.aload_n 0, 1) := by decide +kernel
theorem dL_law_260 : decode cL_law 260 = .ok (.iload_n 3, 1) := by decide +kernel
theorem dL_law_261 : decode cL_law 261 = .ok (.iconst 1, 1) := by decide +kernel
theorem dL_law_262 : decode cL_law 262 = .ok (.iadd, 1) := by decide +kernel
theorem dL_law_263 : decode cL_law 263 = .ok (.iaload, 1) := by decide +kernel
theorem dL_law_264 : decode cL_law 264 = .ok (.aload_n 0, 1) := by decide +kernel
theorem dL_law_265 : decode cL_law 265 = .ok (.iload_n 3, 1) := by decide +kernel
theorem dL_law_266 : decode cL_law 266 = .ok (.iconst 2, 1) := by decide +kernel
theorem dL_law_267 : decode cL_law 267 = .ok (.iadd, 1) := by decide +kernel
theorem dL_law_268 : decode cL_law 268 = .ok (.iaload, 1) := by decide +kernel
theorem dL_law_269 : decode cL_law 269 = .ok (.invokevirtual 32, 3) := by decide +kernel
theorem dL_law_272 : decode cL_law 272 = .ok (.aload_n 2, 1) := by decide +kernel
theorem dL_law_273 : decode cL_law 273 = .ok (.aload_n 0, 1) := by decide +kernel
theorem dL_law_274 : decode cL_law 274 = .ok (.iload_n 3, 1) := by decide +kernel
theorem dL_law_275 : decode cL_law 275 = .ok (.iconst 1, 1) := by decide +kernel
theorem dL_law_276 : decode cL_law 276 = .ok (.iadd, 1) := by decide +kernel
theorem dL_law_277 : decode cL_law 277 = .ok (.iaload, 1) := by decide +kernel
theorem dL_law_278 : decode cL_law 278 = .ok (.aload_n 0, 1) := by decide +kernel
theorem dL_law_279 : decode cL_law 279 = .ok (.iload_n 3, 1) := by decide +kernel
theorem dL_law_280 : decode cL_law 280 = .ok (.iconst 2, 1) := by decide +kernel
theorem dL_law_281 : decode cL_law 281 = .ok (.iadd, 1) := by decide +kernel
theorem dL_law_282 : decode cL_law 282 = .ok (.iaload, 1) := by decide +kernel
theorem dL_law_283 : decode cL_law 283 = .ok (.invokevirtual 35, 3) := by decide +kernel
theorem dL_law_286 : decode cL_law 286 = .ok (.if_icmp .eq 176, 3) := by decide +kernel
theorem dL_law_289 : decode cL_law 289 = .ok (.iconst 0, 1) := by decide +kernel
theorem dL_law_290 : decode cL_law 290 = .ok (.ireturn, 1) := by decide +kernel
theorem dL_law_291 : decode cL_law 291 = .ok (.aload_n 1, 1) := by decide +kernel
theorem dL_law_292 : decode cL_law 292 = .ok (.aload_n 0, 1) := by decide +kernel
theorem dL_law_293 : decode cL_law 293 = .ok (.iload_n 3, 1) := by decide +kernel
theorem dL_law_294 : decode cL_law 294 = .ok (.iconst 1, 1) := by decide +kernel
theorem dL_law_295 : decode cL_law 295 = .ok (.iadd, 1) := by decide +kernel
theorem dL_law_296 : decode cL_law 296 = .ok (.iaload, 1) := by decide +kernel
theorem dL_law_297 : decode cL_law 297 = .ok (.aload_n 0, 1) := by decide +kernel
theorem dL_law_298 : decode cL_law 298 = .ok (.iload_n 3, 1) := by decide +kernel
theorem dL_law_299 : decode cL_law 299 = .ok (.iconst 2, 1) := by decide +kernel
theorem dL_law_300 : decode cL_law 300 = .ok (.iadd, 1) := by decide +kernel
theorem dL_law_301 : decode cL_law 301 = .ok (.iaload, 1) := by decide +kernel
theorem dL_law_302 : decode cL_law 302 = .ok (.invokevirtual 36, 3) := by decide +kernel
theorem dL_law_305 : decode cL_law 305 = .ok (.aload_n 2, 1) := by decide +kernel
theorem dL_law_306 : decode cL_law 306 = .ok (.aload_n 0, 1) := by decide +kernel
theorem dL_law_307 : decode cL_law 307 = .ok (.iload_n 3, 1) := by decide +kernel
theorem dL_law_308 : decode cL_law 308 = .ok (.iconst 1, 1) := by decide +kernel
theorem dL_law_309 : decode cL_law 309 = .ok (.iadd, 1) := by decide +kernel
theorem dL_law_310 : decode cL_law 310 = .ok (.iaload, 1) := by decide +kernel
theorem dL_law_311 : decode cL_law 311 = .ok (.aload_n 0, 1) := by decide +kernel
theorem dL_law_312 : decode cL_law 312 = .ok (.iload_n 3, 1) := by decide +kernel
theorem dL_law_313 : decode cL_law 313 = .ok (.iconst 2, 1) := by decide +kernel
theorem dL_law_314 : decode cL_law 314 = .ok (.iadd, 1) := by decide +kernel
theorem dL_law_315 : decode cL_law 315 = .ok (.iaload, 1) := by decide +kernel
theorem dL_law_316 : decode cL_law 316 = .ok (.invokevirtual 39, 3) := by decide +kernel
theorem dL_law_319 : decode cL_law 319 = .ok (.if_icmp .eq 143, 3) := by decide +kernel
theorem dL_law_322 : decode cL_law 322 = .ok (.iconst 0, 1) := by decide +kernel
theorem dL_law_323 : decode cL_law 323 = .ok (.ireturn, 1) := by decide +kernel
theorem dL_law_324 : decode cL_law 324 = .ok (.aload_n 1, 1) := by decide +kernel
theorem dL_law_325 : decode cL_law 325 = .ok (.aload_n 0, 1) := by decide +kernel
theorem dL_law_326 : decode cL_law 326 = .ok (.iload_n 3, 1) := by decide +kernel
theorem dL_law_327 : decode cL_law 327 = .ok (.iconst 1, 1) := by decide +kernel
theorem dL_law_328 : decode cL_law 328 = .ok (.iadd, 1) := by decide +kernel
theorem dL_law_329 : decode cL_law 329 = .ok (.iaload, 1) := by decide +kernel
theorem dL_law_330 : decode cL_law 330 = .ok (.aload_n 0, 1) := by decide +kernel
theorem dL_law_331 : decode cL_law 331 = .ok (.iload_n 3, 1) := by decide +kernel
theorem dL_law_332 : decode cL_law 332 = .ok (.iconst 2, 1) := by decide +kernel
theorem dL_law_333 : decode cL_law 333 = .ok (.iadd, 1) := by decide +kernel
theorem dL_law_334 : decode cL_law 334 = .ok (.iaload, 1) := by decide +kernel
theorem dL_law_335 : decode cL_law 335 = .ok (.invokevirtual 40, 3) := by decide +kernel
theorem dL_law_338 : decode cL_law 338 = .ok (.aload_n 2, 1) := by decide +kernel
theorem dL_law_339 : decode cL_law 339 = .ok (.aload_n 0, 1) := by decide +kernel
theorem dL_law_340 : decode cL_law 340 = .ok (.iload_n 3, 1) := by decide +kernel
theorem dL_law_341 : decode cL_law 341 = .ok (.iconst 1, 1) := by decide +kernel
theorem dL_law_342 : decode cL_law 342 = .ok (.iadd, 1) := by decide +kernel
theorem dL_law_343 : decode cL_law 343 = .ok (.iaload, 1) := by decide +kernel
theorem dL_law_344 : decode cL_law 344 = .ok (.aload_n 0, 1) := by decide +kernel
theorem dL_law_345 : decode cL_law 345 = .ok (.iload_n 3, 1) := by decide +kernel
theorem dL_law_346 : decode cL_law 346 = .ok (.iconst 2, 1) := by decide +kernel
theorem dL_law_347 : decode cL_law 347 = .ok (.iadd, 1) := by decide +kernel
theorem dL_law_348 : decode cL_law 348 = .ok (.iaload, 1) := by decide +kernel
theorem dL_law_349 : decode cL_law 349 = .ok (.invokevirtual 43, 3) := by decide +kernel
theorem dL_law_352 : decode cL_law 352 = .ok (.if_icmp .eq 110, 3) := by decide +kernel
theorem dL_law_355 : decode cL_law 355 = .ok (.iconst 0, 1) := by decide +kernel
theorem dL_law_356 : decode cL_law 356 = .ok (.ireturn, 1) := by decide +kernel
theorem dL_law_357 : decode cL_law 357 = .ok (.aload_n 1, 1) := by decide +kernel
theorem dL_law_358 : decode cL_law 358 = .ok (.aload_n 0, 1) := by decide +kernel
theorem dL_law_359 : decode cL_law 359 = .ok (.iload_n 3, 1) := by decide +kernel
theorem dL_law_360 : decode cL_law 360 = .ok (.iconst 1, 1) := by decide +kernel
theorem dL_law_361 : decode cL_law 361 = .ok (.iadd, 1) := by decide +kernel
theorem dL_law_362 : decode cL_law 362 = .ok (.iaload, 1) := by decide +kernel
theorem dL_law_363 : decode cL_law 363 = .ok (.invokevirtual 44, 3) := by decide +kernel
theorem dL_law_366 : decode cL_law 366 = .ok (.aload_n 2, 1) := by decide +kernel
theorem dL_law_367 : decode cL_law 367 = .ok (.aload_n 0, 1) := by decide +kernel
theorem dL_law_368 : decode cL_law 368 = .ok (.iload_n 3, 1) := by decide +kernel
theorem dL_law_369 : decode cL_law 369 = .ok (.iconst 1, 1) := by decide +kernel
theorem dL_law_370 : decode cL_law 370 = .ok (.iadd, 1) := by decide +kernel
theorem dL_law_371 : decode cL_law 371 = .ok (.iaload, 1) := by decide +kernel
theorem dL_law_372 : decode cL_law 372 = .ok (.invokevirtual 48, 3) := by decide +kernel
theorem dL_law_375 : decode cL_law 375 = .ok (.if_icmp .eq 87, 3) := by decide +kernel
theorem dL_law_378 : decode cL_law 378 = .ok (.iconst 0, 1) := by decide +kernel
theorem dL_law_379 : decode cL_law 379 = .ok (.ireturn, 1) := by decide +kernel
theorem dL_law_380 : decode cL_law 380 = .ok (.aload_n 1, 1) := by decide +kernel
theorem dL_law_381 : decode cL_law 381 = .ok (.invokevirtual 49, 3) := by decide +kernel
theorem dL_law_384 : decode cL_law 384 = .ok (.aload_n 2, 1) := by decide +kernel
theorem dL_law_385 : decode cL_law 385 = .ok (.invokevirtual 53, 3) := by decide +kernel
theorem dL_law_388 : decode cL_law 388 = .ok (.if_icmp .eq 74, 3) := by decide +kernel
theorem dL_law_391 : decode cL_law 391 = .ok (.iconst 0, 1) := by decide +kernel
theorem dL_law_392 : decode cL_law 392 = .ok (.ireturn, 1) := by decide +kernel
theorem dL_law_393 : decode cL_law 393 = .ok (.aload_n 1, 1) := by decide +kernel
theorem dL_law_394 : decode cL_law 394 = .ok (.aload_n 0, 1) := by decide +kernel
theorem dL_law_395 : decode cL_law 395 = .ok (.iload_n 3, 1) := by decide +kernel
theorem dL_law_396 : decode cL_law 396 = .ok (.iconst 1, 1) := by decide +kernel
theorem dL_law_397 : decode cL_law 397 = .ok (.iadd, 1) := by decide +kernel
theorem dL_law_398 : decode cL_law 398 = .ok (.iaload, 1) := by decide +kernel
theorem dL_law_399 : decode cL_law 399 = .ok (.aload_n 0, 1) := by decide +kernel
theorem dL_law_400 : decode cL_law 400 = .ok (.iload_n 3, 1) := by decide +kernel
theorem dL_law_401 : decode cL_law 401 = .ok (.iconst 2, 1) := by decide +kernel
theorem dL_law_402 : decode cL_law 402 = .ok (.iadd, 1) := by decide +kernel
theorem dL_law_403 : decode cL_law 403 = .ok (.iaload, 1) := by decide +kernel
theorem dL_law_404 : decode cL_law 404 = .ok (.invokevirtual 54, 3) := by decide +kernel
theorem dL_law_407 : decode cL_law 407 = .ok (.aload_n 2, 1) := by decide +kernel
theorem dL_law_408 : decode cL_law 408 = .ok (.aload_n 0, 1) := by decide +kernel
theorem dL_law_409 : decode cL_law 409 = .ok (.iload_n 3, 1) := by decide +kernel
theorem dL_law_410 : decode cL_law 410 = .ok (.iconst 1, 1) := by decide +kernel
theorem dL_law_411 : decode cL_law 411 = .ok (.iadd, 1) := by decide +kernel
theorem dL_law_412 : decode cL_law 412 = .ok (.iaload, 1) := by decide +kernel
theorem dL_law_413 : decode cL_law 413 = .ok (.aload_n 0, 1) := by decide +kernel
theorem dL_law_414 : decode cL_law 414 = .ok (.iload_n 3, 1) := by decide +kernel
theorem dL_law_415 : decode cL_law 415 = .ok (.iconst 2, 1) := by decide +kernel
theorem dL_law_416 : decode cL_law 416 = .ok (.iadd, 1) := by decide +kernel
theorem dL_law_417 : decode cL_law 417 = .ok (.iaload, 1) := by decide +kernel
theorem dL_law_418 : decode cL_law 418 = .ok (.invokevirtual 57, 3) := by decide +kernel
theorem dL_law_421 : decode cL_law 421 = .ok (.if_icmp .eq 41, 3) := by decide +kernel
theorem dL_law_424 : decode cL_law 424 = .ok (.iconst 0, 1) := by decide +kernel
theorem dL_law_425 : decode cL_law 425 = .ok (.ireturn, 1) := by decide +kernel
theorem dL_law_426 : decode cL_law 426 = .ok (.aload_n 1, 1) := by decide +kernel
theorem dL_law_427 : decode cL_law 427 = .ok (.aload_n 0, 1) := by decide +kernel
theorem dL_law_428 : decode cL_law 428 = .ok (.iload_n 3, 1) := by decide +kernel
theorem dL_law_429 : decode cL_law 429 = .ok (.iconst 1, 1) := by decide +kernel
theorem dL_law_430 : decode cL_law 430 = .ok (.iadd, 1) := by decide +kernel
theorem dL_law_431 : decode cL_law 431 = .ok (.iaload, 1) := by decide +kernel
theorem dL_law_432 : decode cL_law 432 = .ok (.invokevirtual 58, 3) := by decide +kernel
theorem dL_law_435 : decode cL_law 435 = .ok (.aload_n 2, 1) := by decide +kernel
theorem dL_law_436 : decode cL_law 436 = .ok (.aload_n 0, 1) := by decide +kernel
theorem dL_law_437 : decode cL_law 437 = .ok (.iload_n 3, 1) := by decide +kernel
theorem dL_law_438 : decode cL_law 438 = .ok (.iconst 1, 1) := by decide +kernel
theorem dL_law_439 : decode cL_law 439 = .ok (.iadd, 1) := by decide +kernel
theorem dL_law_440 : decode cL_law 440 = .ok (.iaload, 1) := by decide +kernel
theorem dL_law_441 : decode cL_law 441 = .ok (.invokevirtual 61, 3) := by decide +kernel
theorem dL_law_444 : decode cL_law 444 = .ok (.if_icmp .eq 18, 3) := by decide +kernel
theorem dL_law_447 : decode cL_law 447 = .ok (.iconst 0, 1) := by decide +kernel
theorem dL_law_448 : decode cL_law 448 = .ok (.ireturn, 1) := by decide +kernel
theorem dL_law_449 : decode cL_law 449 = .ok (.aload_n 1, 1) := by decide +kernel
theorem dL_law_450 : decode cL_law 450 = .ok (.invokevirtual 62, 3) := by decide +kernel
theorem dL_law_453 : decode cL_law 453 = .ok (.aload_n 2, 1) := by decide +kernel
theorem dL_law_454 : decode cL_law 454 = .ok (.invokevirtual 65, 3) := by decide +kernel
theorem dL_law_457 : decode cL_law 457 = .ok (.if_icmp .eq 5, 3) := by decide +kernel
theorem dL_law_460 : decode cL_law 460 = .ok (.iconst 0, 1) := by decide +kernel
theorem dL_law_461 : decode cL_law 461 = .ok (.ireturn, 1) := by decide +kernel
theorem dL_law_462 : decode cL_law 462 = .ok (.iinc 3 5, 3) := by decide +kernel
theorem dL_law_465 : decode cL_law 465 = .ok (.goto (-447), 3) := by decide +kernel
theorem dL_law_468 : decode cL_law 468 = .ok (.iconst 1, 1) := by decide +kernel
theorem dL_law_469 : decode cL_law 469 = .ok (.ireturn, 1) := by decide +kernel
end
section
theorem dX5_init_0 : decode cX5_init 0 = .ok (.aload_n 0, 1) := by decide +kernel
theorem dX5_init_1 : decode cX5_init 1 = .ok (.invokespecial 1, 3) := by decide +kernel
theorem dX5_init_4 : decode cX5_init 4 = .ok (.aload_n 0, 1) := by decide +kernel
theorem dX5_init_5 : decode cX5_init 5 = .ok (.sipush 246, 3) := by decide +kernel
theorem dX5_init_8 : decode cX5_init 8 = .ok (.newarray .int, 2) := by decide +kernel
theorem dX5_init_10 : decode cX5_init 10 = .ok (.dup, 1) := by decide +kernel
theorem dX5_init_11 : decode cX5_init 11 = .ok (.iconst 0, 1) := by decide +kernel
theorem dX5_init_12 : decode cX5_init 12 = .ok (.sipush 3010, 3) := by decide +kernel
theorem dX5_init_15 : decode cX5_init 15 = .ok (.iastore, 1) := by decide +kernel
theorem dX5_init_16 : decode cX5_init 16 = .ok (.dup, 1) := by decide +kernel
theorem dX5_init_17 : decode cX5_init 17 = .ok (.iconst 1, 1) := by decide +kernel
theorem dX5_init_18 : decode cX5_init 18 = .ok (.sipush 1000, 3) := by decide +kernel
theorem dX5_init_21 : decode cX5_init 21 = .ok (.iastore, 1) := by decide +kernel
theorem dX5_init_22 : decode cX5_init 22 = .ok (.dup, 1) := by decide +kernel
theorem dX5_init_23 : decode cX5_init 23 = .ok (.iconst 2, 1) := by decide +kernel
theorem dX5_init_24 : decode cX5_init 24 = .ok (.sipush 1100, 3) := by decide +kernel
theorem dX5_init_27 : decode cX5_init 27 = .ok (.iastore, 1) := by decide +kernel
theorem dX5_init_28 : decode cX5_init 28 = .ok (.dup, 1) := by decide +kernel
theorem dX5_init_29 : decode cX5_init 29 = .ok (.iconst 3, 1) := by decide +kernel
theorem dX5_init_30 : decode cX5_init 30 = .ok (.iconst 1, 1) := by decide +kernel
theorem dX5_init_31 : decode cX5_init 31 = .ok (.iastore, 1) := by decide +kernel
theorem dX5_init_32 : decode cX5_init 32 = .ok (.dup, 1) := by decide +kernel
theorem dX5_init_33 : decode cX5_init 33 = .ok (.iconst 4, 1) := by decide +kernel
theorem dX5_init_34 : decode cX5_init 34 = .ok (.sipush 1003, 3) := by decide +kernel
theorem dX5_init_37 : decode cX5_init 37 = .ok (.iastore, 1) := by decide +kernel
theorem dX5_init_38 : decode cX5_init 38 = .ok (.dup, 1) := by decide +kernel
theorem dX5_init_39 : decode cX5_init 39 = .ok (.iconst 5, 1) := by decide +kernel
theorem dX5_init_40 : decode cX5_init 40 = .ok (.sipush 3011, 3) := by decide +kernel
theorem dX5_init_43 : decode cX5_init 43 = .ok (.iastore, 1) := by decide +kernel
theorem dX5_init_44 : decode cX5_init 44 = .ok (.dup, 1) := by decide +kernel
theorem dX5_init_45 : decode cX5_init 45 = .ok (.bipush 6, 2) := by decide +kernel
theorem dX5_init_47 : decode cX5_init 47 = .ok (.sipush 1000, 3) := by decide +kernel
theorem dX5_init_50 : decode cX5_init 50 = .ok (.iastore, 1) := by decide +kernel
theorem dX5_init_51 : decode cX5_init 51 = .ok (.dup, 1) := by decide +kernel
theorem dX5_init_52 : decode cX5_init 52 = .ok (.bipush 7, 2) := by decide +kernel
theorem dX5_init_54 : decode cX5_init 54 = .ok (.sipush 1101, 3) := by decide +kernel
theorem dX5_init_57 : decode cX5_init 57 = .ok (.iastore, 1) := by decide +kernel
theorem dX5_init_58 : decode cX5_init 58 = .ok (.dup, 1) := by decide +kernel
theorem dX5_init_59 : decode cX5_init 59 = .ok (.bipush 8, 2) := by decide +kernel
theorem dX5_init_61 : decode cX5_init 61 = .ok (.iconst 3, 1) := by decide +kernel
theorem dX5_init_62 : decode cX5_init 62 = .ok (.iastore, 1) := by decide +kernel
theorem dX5_init_63 : decode cX5_init 63 = .ok (.dup, 1) := by decide +kernel
theorem dX5_init_64 : decode cX5_init 64 = .ok (.bipush 9, 2) := by decide +kernel
theorem dX5_init_66 : decode cX5_init 66 = .ok (.sipush 1005, 3) := by decide +kernel
theorem dX5_init_69 : decode cX5_init 69 = .ok (.iastore, 1) := by decide +kernel
theorem dX5_init_70 : decode cX5_init 70 = .ok (.dup, 1) := by decide +kernel
theorem dX5_init_71 : decode cX5_init 71 = .ok (.bipush 10, 2) := by decide +kernel
theorem dX5_init_73 : decode cX5_init 73 = .ok (.sipush 1000, 3) := by decide +kernel
theorem dX5_init_76 : decode cX5_init 76 = .ok (.iastore, 1) := by decide +kernel
theorem dX5_init_77 : decode cX5_init 77 = .ok (.dup, 1) := by decide +kernel
theorem dX5_init_78 : decode cX5_init 78 = .ok (.bipush 11, 2) := by decide +kernel
theorem dX5_init_80 : decode cX5_init 80 = .ok (.iconst 1, 1) := by decide +kernel
theorem dX5_init_81 : decode cX5_init 81 = .ok (.iastore, 1) := by decide +kernel
theorem dX5_init_82 : decode cX5_init 82 = .ok (.dup, 1) := by decide +kernel
theorem dX5_init_83 : decode cX5_init 83 = .ok (.bipush 12, 2) := by decide +kernel
theorem dX5_init_85 : decode cX5_init 85 = .ok (.sipush 1003, 3) := by decide +kernel
theorem dX5_init_88 : decode cX5_init 88 = .ok (.iastore, 1) := by decide +kernel
theorem dX5_init_89 : decode cX5_init 89 = .ok (.dup, 1) := by decide +kernel
theorem dX5_init_90 : decode cX5_init 90 = .ok (.bipush 13, 2) := by decide +kernel
theorem dX5_init_92 : decode cX5_init 92 = .ok (.sipush 1100, 3) := by decide +kernel
theorem dX5_init_95 : decode cX5_init 95 = .ok (.iastore, 1) := by decide +kernel
theorem dX5_init_96 : decode cX5_init 96 = .ok (.dup, 1) := by decide +kernel
theorem dX5_init_97 : decode cX5_init 97 = .ok (.bipush 14, 2) := by decide +kernel
theorem dX5_init_99 : decode cX5_init 99 = .ok (.sipush 1004, 3) := by decide +kernel
theorem dX5_init_102 : decode cX5_init 102 = .ok (.iastore, 1) := by decide +kernel
theorem dX5_init_103 : decode cX5_init 103 = .ok (.dup, 1) := by decide +kernel
theorem dX5_init_104 : decode cX5_init 104 = .ok (.bipush 15, 2) := by decide +kernel
theorem dX5_init_106 : decode cX5_init 106 = .ok (.sipush 3020, 3) := by decide +kernel
theorem dX5_init_109 : decode cX5_init 109 = .ok (.iastore, 1) := by decide +kernel
theorem dX5_init_110 : decode cX5_init 110 = .ok (.dup, 1) := by decide +kernel
theorem dX5_init_111 : decode cX5_init 111 = .ok (.bipush 16, 2) := by decide +kernel
theorem dX5_init_113 : decode cX5_init 113 = .ok (.sipush 1000, 3) := by decide +kernel
theorem dX5_init_116 : decode cX5_init 116 = .ok (.iastore, 1) := by decide +kernel
theorem dX5_init_117 : decode cX5_init 117 = .ok (.dup, 1) := by decide +kernel
theorem dX5_init_118 : decode cX5_init 118 = .ok (.bipush 17, 2) := by decide +kernel
theorem dX5_init_120 : decode cX5_init 120 = .ok (.sipush 1103, 3) := by decide +kernel
theorem dX5_init_123 : decode cX5_init 123 = .ok (.iastore, 1) := by decide +kernel
theorem dX5_init_124 : decode cX5_init 124 = .ok (.dup, 1) := by decide +kernel
theorem dX5_init_125 : decode cX5_init 125 = .ok (.bipush 18, 2) := by decide +kernel
theorem dX5_init_127 : decode cX5_init 127 = .ok (.sipush 1000, 3) := by decide +kernel
theorem dX5_init_130 : decode cX5_init 130 = .ok (.iastore, 1) := by decide +kernel
theorem dX5_init_131 : decode cX5_init 131 = .ok (.dup, 1) := by decide +kernel
theorem dX5_init_132 : decode cX5_init 132 = .ok (.bipush 19, 2) := by decide +kernel
theorem dX5_init_134 : decode cX5_init 134 = .ok (.iconst 1, 1) := by decide +kernel
theorem dX5_init_135 : decode cX5_init 135 = .ok (.iastore, 1) := by decide +kernel
theorem dX5_init_136 : decode cX5_init 136 = .ok (.dup, 1) := by decide +kernel
theorem dX5_init_137 : decode cX5_init 137 = .ok (.bipush 20, 2) := by decide +kernel
theorem dX5_init_139 : decode cX5_init 139 = .ok (.sipush 1003, 3) := by decide +kernel
theorem dX5_init_142 : decode cX5_init 142 = .ok (.iastore, 1) := by decide +kernel
theorem dX5_init_143 : decode cX5_init 143 = .ok (.dup, 1) := by decide +kernel
theorem dX5_init_144 : decode cX5_init 144 = .ok (.bipush 21, 2) := by decide +kernel
theorem dX5_init_146 : decode cX5_init 146 = .ok (.sipush 1103, 3) := by decide +kernel
theorem dX5_init_149 : decode cX5_init 149 = .ok (.iastore, 1) := by decide +kernel
theorem dX5_init_150 : decode cX5_init 150 = .ok (.dup, 1) := by decide +kernel
theorem dX5_init_151 : decode cX5_init 151 = .ok (.bipush 22, 2) := by decide +kernel
theorem dX5_init_153 : decode cX5_init 153 = .ok (.sipush 1003, 3) := by decide +kernel
theorem dX5_init_156 : decode cX5_init 156 = .ok (.iastore, 1) := by decide +kernel
theorem dX5_init_157 : decode cX5_init 157 = .ok (.dup, 1) := by decide +kernel
theorem dX5_init_158 : decode cX5_init 158 = .ok (.bipush 23, 2) := by decide +kernel
theorem dX5_init_160 : decode cX5_init 160 = .ok (.sipush 3021, 3) := by decide +kernel
theorem dX5_init_163 : decode cX5_init 163 = .ok (.iastore, 1) := by decide +kernel
theorem dX5_init_164 : decode cX5_init 164 = .ok (.dup, 1) := by decide +kernel
theorem dX5_init_165 : decode cX5_init 165 = .ok (.bipush 24, 2) := by decide +kernel
theorem dX5_init_167 : decode cX5_init 167 = .ok (.sipush 1000, 3) := by decide +kernel
theorem dX5_init_170 : decode cX5_init 170 = .ok (.iastore, 1) := by decide +kernel
theorem dX5_init_171 : decode cX5_init 171 = .ok (.dup, 1) := by decide +kernel
theorem dX5_init_172 : decode cX5_init 172 = .ok (.bipush 25, 2) := by decide +kernel
theorem dX5_init_174 : decode cX5_init 174 = .ok (.sipush 1104, 3) := by decide +kernel
theorem dX5_init_177 : decode cX5_init 177 = .ok (.iastore, 1) := by decide +kernel
theorem dX5_init_178 : decode cX5_init 178 = .ok (.dup, 1) := by decide +kernel
theorem dX5_init_179 : decode cX5_init 179 = .ok (.bipush 26, 2) := by decide +kernel
theorem dX5_init_181 : decode cX5_init 181 = .ok (.bipush 85, 2) := by decide +kernel
theorem dX5_init_183 : decode cX5_init 183 = .ok (.iastore, 1) := by decide +kernel
theorem dX5_init_184 : decode cX5_init 184 = .ok (.dup, 1) := by decide +kernel
theorem dX5_init_185 : decode cX5_init 185 = .ok (.bipush 27, 2) := by decide +kernel
theorem dX5_init_187 : decode cX5_init 187 = .ok (.sipush 1006, 3) := by decide +kernel
theorem dX5_init_190 : decode cX5_init 190 = .ok (.iastore, 1) := by decide +kernel
theorem dX5_init_191 : decode cX5_init 191 = .ok (.dup, 1) := by decide +kernel
theorem dX5_init_192 : decode cX5_init 192 = .ok (.bipush 28, 2) := by decide +kernel
theorem dX5_init_194 : decode cX5_init 194 = .ok (.sipush 3030, 3) := by decide +kernel
theorem dX5_init_197 : decode cX5_init 197 = .ok (.iastore, 1) := by decide +kernel
theorem dX5_init_198 : decode cX5_init 198 = .ok (.dup, 1) := by decide +kernel
theorem dX5_init_199 : decode cX5_init 199 = .ok (.bipush 29, 2) := by decide +kernel
theorem dX5_init_201 : decode cX5_init 201 = .ok (.sipush 1000, 3) := by decide +kernel
theorem dX5_init_204 : decode cX5_init 204 = .ok (.iastore, 1) := by decide +kernel
theorem dX5_init_205 : decode cX5_init 205 = .ok (.dup, 1) := by decide +kernel
theorem dX5_init_206 : decode cX5_init 206 = .ok (.bipush 30, 2) := by decide +kernel
theorem dX5_init_208 : decode cX5_init 208 = .ok (.sipush 1314, 3) := by decide +kernel
theorem dX5_init_211 : decode cX5_init 211 = .ok (.iastore, 1) := by decide +kernel
theorem dX5_init_212 : decode cX5_init 212 = .ok (.dup, 1) := by decide +kernel
theorem dX5_init_213 : decode cX5_init 213 = .ok (.bipush 31, 2) := by decide +kernel
theorem dX5_init_215 : decode cX5_init 215 = .ok (.sipush 1000, 3) := by decide +kernel
theorem dX5_init_218 : decode cX5_init 218 = .ok (.iastore, 1) := by decide +kernel
theorem dX5_init_219 : decode cX5_init 219 = .ok (.dup, 1) := by decide +kernel
theorem dX5_init_220 : decode cX5_init 220 = .ok (.bipush 32, 2) := by decide +kernel
theorem dX5_init_222 : decode cX5_init 222 = .ok (.iconst 1, 1) := by decide +kernel
theorem dX5_init_223 : decode cX5_init 223 = .ok (.iastore, 1) := by decide +kernel
theorem dX5_init_224 : decode cX5_init 224 = .ok (.dup, 1) := by decide +kernel
theorem dX5_init_225 : decode cX5_init 225 = .ok (.bipush 33, 2) := by decide +kernel
theorem dX5_init_227 : decode cX5_init 227 = .ok (.sipush 1003, 3) := by decide +kernel
theorem dX5_init_230 : decode cX5_init 230 = .ok (.iastore, 1) := by decide +kernel
theorem dX5_init_231 : decode cX5_init 231 = .ok (.dup, 1) := by decide +kernel
theorem dX5_init_232 : decode cX5_init 232 = .ok (.bipush 34, 2) := by decide +kernel
theorem dX5_init_234 : decode cX5_init 234 = .ok (.sipush 1326, 3) := by decide +kernel
theorem dX5_init_237 : decode cX5_init 237 = .ok (.iastore, 1) := by decide +kernel
theorem dX5_init_238 : decode cX5_init 238 = .ok (.dup, 1) := by decide +kernel
theorem dX5_init_239 : decode cX5_init 239 = .ok (.bipush 35, 2) := by decide +kernel
theorem dX5_init_241 : decode cX5_init 241 = .ok (.sipush 1003, 3) := by decide +kernel
theorem dX5_init_244 : decode cX5_init 244 = .ok (.iastore, 1) := by decide +kernel
theorem dX5_init_245 : decode cX5_init 245 = .ok (.dup, 1) := by decide +kernel
theorem dX5_init_246 : decode cX5_init 246 = .ok (.bipush 36, 2) := by decide +kernel
theorem dX5_init_248 : decode cX5_init 248 = .ok (.sipush 3040, 3) := by decide +kernel
theorem dX5_init_251 : decode cX5_init 251 = .ok (.iastore, 1) := by decide +kernel
theorem dX5_init_252 : decode cX5_init 252 = .ok (.dup, 1) := by decide +kernel
theorem dX5_init_253 : decode cX5_init 253 = .ok (.bipush 37, 2) := by decide +kernel
theorem dX5_init_255 : decode cX5_init 255 = .ok (.sipush 1000, 3) := by decide +kernel
theorem dX5_init_258 : decode cX5_init 258 = .ok (.iastore, 1) := by decide +kernel
theorem dX5_init_259 : decode cX5_init 259 = .ok (.dup, 1) := by decide +kernel
theorem dX5_init_260 : decode cX5_init 260 = .ok (.bipush 38, 2) := by decide +kernel
theorem dX5_init_262 : decode cX5_init 262 = .ok (.sipush 1105, 3) := by decide +kernel
theorem dX5_init_265 : decode cX5_init 265 = .ok (.iastore, 1) := by decide +kernel
theorem dX5_init_266 : decode cX5_init 266 = .ok (.dup, 1) := by decide +kernel
theorem dX5_init_267 : decode cX5_init 267 = .ok (.bipush 39, 2) := by decide +kernel
theorem dX5_init_269 : decode cX5_init 269 = .ok (.sipush 1000, 3) := by decide +kernel
theorem dX5_init_272 : decode cX5_init 272 = .ok (.iastore, 1) := by decide +kernel
theorem dX5_init_273 : decode cX5_init 273 = .ok (.dup, 1) := by decide +kernel
theorem dX5_init_274 : decode cX5_init 274 = .ok (.bipush 40, 2) := by decide +kernel
theorem dX5_init_276 : decode cX5_init 276 = .ok (.sipush 1003, 3) := by decide +kernel
theorem dX5_init_279 : decode cX5_init 279 = .ok (.iastore, 1) := by decide +kernel
theorem dX5_init_280 : decode cX5_init 280 = .ok (.dup, 1) := by decide +kernel
theorem dX5_init_281 : decode cX5_init 281 = .ok (.bipush 41, 2) := by decide +kernel
theorem dX5_init_283 : decode cX5_init 283 = .ok (.sipush 3041, 3) := by decide +kernel
theorem dX5_init_286 : decode cX5_init 286 = .ok (.iastore, 1) := by decide +kernel
theorem dX5_init_287 : decode cX5_init 287 = .ok (.dup, 1) := by decide +kernel
theorem dX5_init_288 : decode cX5_init 288 = .ok (.bipush 42, 2) := by decide +kernel
theorem dX5_init_290 : decode cX5_init 290 = .ok (.sipush 1000, 3) := by decide +kernel
theorem dX5_init_293 : decode cX5_init 293 = .ok (.iastore, 1) := by decide +kernel
theorem dX5_init_294 : decode cX5_init 294 = .ok (.dup, 1) := by decide +kernel
theorem dX5_init_295 : decode cX5_init 295 = .ok (.bipush 43, 2) := by decide +kernel
theorem dX5_init_297 : decode cX5_init 297 = .ok (.sipush 1106, 3) := by decide +kernel
theorem dX5_init_300 : decode cX5_init 300 = .ok (.iastore, 1) := by decide +kernel
theorem dX5_init_301 : decode cX5_init 301 = .ok (.dup, 1) := by decide +kernel
theorem dX5_init_302 : decode cX5_init 302 = .ok (.bipush 44, 2) := by decide +kernel
theorem dX5_init_304 : decode cX5_init 304 = .ok (.iconst 2, 1) := by decide +kernel
theorem dX5_init_305 : decode cX5_init 305 = .ok (.iastore, 1) := by decide +kernel
theorem dX5_init_306 : decode cX5_init 306 = .ok (.dup, 1) := by decide +kernel
theorem dX5_init_307 : decode cX5_init 307 = .ok (.bipush 45, 2) := by decide +kernel
theorem dX5_init_309 : decode cX5_init 309 = .ok (.sipush 1005, 3) := by decide +kernel
theorem dX5_init_312 : decode cX5_init 312 = .ok (.iastore, 1) := by decide +kernel
theorem dX5_init_313 : decode cX5_init 313 = .ok (.dup, 1) := by decide +kernel
theorem dX5_init_314 : decode cX5_init 314 = .ok (.bipush 46, 2) := by decide +kernel
theorem dX5_init_316 : decode cX5_init 316 = .ok (.iconst 1, 1) := by decide +kernel
theorem dX5_init_317 : decode cX5_init 317 = .ok (.iastore, 1) := by decide +kernel
theorem dX5_init_318 : decode cX5_init 318 = .ok (.dup, 1) := by decide +kernel
theorem dX5_init_319 : decode cX5_init 319 = .ok (.bipush 47, 2) := by decide +kernel
theorem dX5_init_321 : decode cX5_init 321 = .ok (.sipush 1106, 3) := by decide +kernel
theorem dX5_init_324 : decode cX5_init 324 = .ok (.iastore, 1) := by decide +kernel
theorem dX5_init_325 : decode cX5_init 325 = .ok (.dup, 1) := by decide +kernel
theorem dX5_init_326 : decode cX5_init 326 = .ok (.bipush 48, 2) := by decide +kernel
theorem dX5_init_328 : decode cX5_init 328 = .ok (.sipush 1003, 3) := by decide +kernel
theorem dX5_init_331 : decode cX5_init 331 = .ok (.iastore, 1) := by decide +kernel
theorem dX5_init_332 : decode cX5_init 332 = .ok (.dup, 1) := by decide +kernel
theorem dX5_init_333 : decode cX5_init 333 = .ok (.bipush 49, 2) := by decide +kernel
theorem dX5_init_335 : decode cX5_init 335 = .ok (.sipush 3050, 3) := by decide +kernel
theorem dX5_init_338 : decode cX5_init 338 = .ok (.iastore, 1) := by decide +kernel
theorem dX5_init_339 : decode cX5_init 339 = .ok (.dup, 1) := by decide +kernel
theorem dX5_init_340 : decode cX5_init 340 = .ok (.bipush 50, 2) := by decide +kernel
theorem dX5_init_342 : decode cX5_init 342 = .ok (.sipush 1000, 3) := by decide +kernel
theorem dX5_init_345 : decode cX5_init 345 = .ok (.iastore, 1) := by decide +kernel
theorem dX5_init_346 : decode cX5_init 346 = .ok (.dup, 1) := by decide +kernel
theorem dX5_init_347 : decode cX5_init 347 = .ok (.bipush 51, 2) := by decide +kernel
theorem dX5_init_349 : decode cX5_init 349 = .ok (.sipush 1355, 3) := by decide +kernel
theorem dX5_init_352 : decode cX5_init 352 = .ok (.iastore, 1) := by decide +kernel
theorem dX5_init_353 : decode cX5_init 353 = .ok (.dup, 1) := by decide +kernel
theorem dX5_init_354 : decode cX5_init 354 = .ok (.bipush 52, 2) := by decide +kernel
theorem dX5_init_356 : decode cX5_init 356 = .ok (.sipush 1000, 3) := by decide +kernel
theorem dX5_init_359 : decode cX5_init 359 = .ok (.iastore, 1) := by decide +kernel
theorem dX5_init_360 : decode cX5_init 360 = .ok (.dup, 1) := by decide +kernel
theorem dX5_init_361 : decode cX5_init 361 = .ok (.bipush 53, 2) := by decide +kernel
theorem dX5_init_363 : decode cX5_init 363 = .ok (.sipush 1108, 3) := by decide +kernel
theorem dX5_init_366 : decode cX5_init 366 = .ok (.iastore, 1) := by decide +kernel
theorem dX5_init_367 : decode cX5_init 367 = .ok (.dup, 1) := by decide +kernel
theorem dX5_init_368 : decode cX5_init 368 = .ok (.bipush 54, 2) := by decide +kernel
theorem dX5_init_370 : decode cX5_init 370 = .ok (.sipush 1004, 3) := by decide +kernel
theorem dX5_init_373 : decode cX5_init 373 = .ok (.iastore, 1) := by decide +kernel
theorem dX5_init_374 : decode cX5_init 374 = .ok (.dup, 1) := by decide +kernel
theorem dX5_init_375 : decode cX5_init 375 = .ok (.bipush 55, 2) := by decide +kernel
theorem dX5_init_377 : decode cX5_init 377 = .ok (.sipush 3051, 3) := by decide +kernel
theorem dX5_init_380 : decode cX5_init 380 = .ok (.iastore, 1) := by decide +kernel
theorem dX5_init_381 : decode cX5_init 381 = .ok (.dup, 1) := by decide +kernel
theorem dX5_init_382 : decode cX5_init 382 = .ok (.bipush 56, 2) := by decide +kernel
theorem dX5_init_384 : decode cX5_init 384 = .ok (.sipush 1000, 3) := by decide +kernel
theorem dX5_init_387 : decode cX5_init 387 = .ok (.iastore, 1) := by decide +kernel
theorem dX5_init_388 : decode cX5_init 388 = .ok (.dup, 1) := by decide +kernel
theorem dX5_init_389 : decode cX5_init 389 = .ok (.bipush 57, 2) := by decide +kernel
theorem dX5_init_391 : decode cX5_init 391 = .ok (.sipush 2052, 3) := by decide +kernel
theorem dX5_init_394 : decode cX5_init 394 = .ok (.iastore, 1) := by decide +kernel
theorem dX5_init_395 : decode cX5_init 395 = .ok (.dup, 1) := by decide +kernel
theorem dX5_init_396 : decode cX5_init 396 = .ok (.bipush 58, 2) := by decide +kernel
theorem dX5_init_398 : decode cX5_init 398 = .ok (.iconst 2, 1) := by decide +kernel
theorem dX5_init_399 : decode cX5_init 399 = .ok (.iastore, 1) := by decide +kernel
theorem dX5_init_400 : decode cX5_init 400 = .ok (.dup, 1) := by decide +kernel
theorem dX5_init_401 : decode cX5_init 401 = .ok (.bipush 59, 2) := by decide +kernel
theorem dX5_init_403 : decode cX5_init 403 = .ok (.sipush 1105, 3) := by decide +kernel
theorem dX5_init_406 : decode cX5_init 406 = .ok (.iastore, 1) := by decide +kernel
theorem dX5_init_407 : decode cX5_init 407 = .ok (.dup, 1) := by decide +kernel
theorem dX5_init_408 : decode cX5_init 408 = .ok (.bipush 60, 2) := by decide +kernel
theorem dX5_init_410 : decode cX5_init 410 = .ok (.sipush 1003, 3) := by decide +kernel
theorem dX5_init_413 : decode cX5_init 413 = .ok (.iastore, 1) := by decide +kernel
theorem dX5_init_414 : decode cX5_init 414 = .ok (.dup, 1) := by decide +kernel
theorem dX5_init_415 : decode cX5_init 415 = .ok (.bipush 61, 2) := by decide +kernel
theorem dX5_init_417 : decode cX5_init 417 = .ok (.sipush 3052, 3) := by decide +kernel
theorem dX5_init_420 : decode cX5_init 420 = .ok (.iastore, 1) := by decide +kernel
theorem dX5_init_421 : decode cX5_init 421 = .ok (.dup, 1) := by decide +kernel
theorem dX5_init_422 : decode cX5_init 422 = .ok (.bipush 62, 2) := by decide +kernel
theorem dX5_init_424 : decode cX5_init 424 = .ok (.sipush 1000, 3) := by decide +kernel
theorem dX5_init_427 : decode cX5_init 427 = .ok (.iastore, 1) := by decide +kernel
theorem dX5_init_428 : decode cX5_init 428 = .ok (.dup, 1) := by decide +kernel
theorem dX5_init_429 : decode cX5_init 429 = .ok (.bipush 63, 2) := by decide +kernel
theorem dX5_init_431 : decode cX5_init 431 = .ok (.sipush 1105, 3) := by decide +kernel
theorem dX5_init_434 : decode cX5_init 434 = .ok (.iastore, 1) := by decide +kernel
theorem dX5_init_435 : decode cX5_init 435 = .ok (.dup, 1) := by decide +kernel
theorem dX5_init_436 : decode cX5_init 436 = .ok (.bipush 64, 2) := by decide +kernel
theorem dX5_init_438 : decode cX5_init 438 = .ok (.iconst 5, 1) := by decide +kernel
theorem dX5_init_439 : decode cX5_init 439 = .ok (.iastore, 1) := by decide +kernel
theorem dX5_init_440 : decode cX5_init 440 = .ok (.dup, 1) := by decide +kernel
theorem dX5_init_441 : decode cX5_init 441 = .ok (.bipush 65, 2) := by decide +kernel
theorem dX5_init_443 : decode cX5_init 443 = .ok (.sipush 1005, 3) := by decide +kernel
theorem dX5_init_446 : decode cX5_init 446 = .ok (.iastore, 1) := by decide +kernel
theorem dX5_init_447 : decode cX5_init 447 = .ok (.dup, 1) := by decide +kernel
theorem dX5_init_448 : decode cX5_init 448 = .ok (.bipush 66, 2) := by decide +kernel
theorem dX5_init_450 : decode cX5_init 450 = .ok (.sipush 3060, 3) := by decide +kernel
theorem dX5_init_453 : decode cX5_init 453 = .ok (.iastore, 1) := by decide +kernel
theorem dX5_init_454 : decode cX5_init 454 = .ok (.dup, 1) := by decide +kernel
theorem dX5_init_455 : decode cX5_init 455 = .ok (.bipush 67, 2) := by decide +kernel
theorem dX5_init_457 : decode cX5_init 457 = .ok (.sipush 1001, 3) := by decide +kernel
theorem dX5_init_460 : decode cX5_init 460 = .ok (.iastore, 1) := by decide +kernel
theorem dX5_init_461 : decode cX5_init 461 = .ok (.dup, 1) := by decide +kernel
theorem dX5_init_462 : decode cX5_init 462 = .ok (.bipush 68, 2) := by decide +kernel
theorem dX5_init_464 : decode cX5_init 464 = .ok (.sipush 1000, 3) := by decide +kernel
theorem dX5_init_467 : decode cX5_init 467 = .ok (.iastore, 1) := by decide +kernel
theorem dX5_init_468 : decode cX5_init 468 = .ok (.dup, 1) := by decide +kernel
theorem dX5_init_469 : decode cX5_init 469 = .ok (.bipush 69, 2) := by decide +kernel
theorem dX5_init_471 : decode cX5_init 471 = .ok (.sipush 1003, 3) := by decide +kernel
theorem dX5_init_474 : decode cX5_init 474 = .ok (.iastore, 1) := by decide +kernel
theorem dX5_init_475 : decode cX5_init 475 = .ok (.dup, 1) := by decide +kernel
theorem dX5_init_476 : decode cX5_init 476 = .ok (.bipush 70, 2) := by decide +kernel
theorem dX5_init_478 : decode cX5_init 478 = .ok (.sipush 1008, 3) := by decide +kernel
theorem dX5_init_481 : decode cX5_init 481 = .ok (.iastore, 1) := by decide +kernel
theorem dX5_init_482 : decode cX5_init 482 = .ok (.dup, 1) := by decide +kernel
theorem dX5_init_483 : decode cX5_init 483 = .ok (.bipush 71, 2) := by decide +kernel
theorem dX5_init_485 : decode cX5_init 485 = .ok (.sipush 1001, 3) := by decide +kernel
theorem dX5_init_488 : decode cX5_init 488 = .ok (.iastore, 1) := by decide +kernel
theorem dX5_init_489 : decode cX5_init 489 = .ok (.dup, 1) := by decide +kernel
theorem dX5_init_490 : decode cX5_init 490 = .ok (.bipush 72, 2) := by decide +kernel
theorem dX5_init_492 : decode cX5_init 492 = .ok (.sipush 3061, 3) := by decide +kernel
theorem dX5_init_495 : decode cX5_init 495 = .ok (.iastore, 1) := by decide +kernel
theorem dX5_init_496 : decode cX5_init 496 = .ok (.dup, 1) := by decide +kernel
theorem dX5_init_497 : decode cX5_init 497 = .ok (.bipush 73, 2) := by decide +kernel
theorem dX5_init_499 : decode cX5_init 499 = .ok (.sipush 1001, 3) := by decide +kernel
theorem dX5_init_502 : decode cX5_init 502 = .ok (.iastore, 1) := by decide +kernel
theorem dX5_init_503 : decode cX5_init 503 = .ok (.dup, 1) := by decide +kernel
theorem dX5_init_504 : decode cX5_init 504 = .ok (.bipush 74, 2) := by decide +kernel
theorem dX5_init_506 : decode cX5_init 506 = .ok (.iconst 3, 1) := by decide +kernel
theorem dX5_init_507 : decode cX5_init 507 = .ok (.iastore, 1) := by decide +kernel
theorem dX5_init_508 : decode cX5_init 508 = .ok (.dup, 1) := by decide +kernel
theorem dX5_init_509 : decode cX5_init 509 = .ok (.bipush 75, 2) := by decide +kernel
theorem dX5_init_511 : decode cX5_init 511 = .ok (.sipush 1000, 3) := by decide +kernel
theorem dX5_init_514 : decode cX5_init 514 = .ok (.iastore, 1) := by decide +kernel
theorem dX5_init_515 : decode cX5_init 515 = .ok (.dup, 1) := by decide +kernel
theorem dX5_init_516 : decode cX5_init 516 = .ok (.bipush 76, 2) := by decide +kernel
theorem dX5_init_518 : decode cX5_init 518 = .ok (.sipush 1005, 3) := by decide +kernel
theorem dX5_init_521 : decode cX5_init 521 = .ok (.iastore, 1) := by decide +kernel
theorem dX5_init_522 : decode cX5_init 522 = .ok (.dup, 1) := by decide +kernel
theorem dX5_init_523 : decode cX5_init 523 = .ok (.bipush 77, 2) := by decide +kernel
theorem dX5_init_525 : decode cX5_init 525 = .ok (.sipush 1004, 3) := by decide +kernel
theorem dX5_init_528 : decode cX5_init 528 = .ok (.iastore, 1) := by decide +kernel
theorem dX5_init_529 : decode cX5_init 529 = .ok (.dup, 1) := by decide +kernel
theorem dX5_init_530 : decode cX5_init 530 = .ok (.bipush 78, 2) := by decide +kernel
theorem dX5_init_532 : decode cX5_init 532 = .ok (.sipush 1008, 3) := by decide +kernel
theorem dX5_init_535 : decode cX5_init 535 = .ok (.iastore, 1) := by decide +kernel
theorem dX5_init_536 : decode cX5_init 536 = .ok (.dup, 1) := by decide +kernel
theorem dX5_init_537 : decode cX5_init 537 = .ok (.bipush 79, 2) := by decide +kernel
theorem dX5_init_539 : decode cX5_init 539 = .ok (.sipush 1001, 3) := by decide +kernel
theorem dX5_init_542 : decode cX5_init 542 = .ok (.iastore, 1) := by decide +kernel
theorem dX5_init_543 : decode cX5_init 543 = .ok (.dup, 1) := by decide +kernel
theorem dX5_init_544 : decode cX5_init 544 = .ok (.bipush 80, 2) := by decide +kernel
theorem dX5_init_546 : decode cX5_init 546 = .ok (.sipush 3062, 3) := by decide +kernel
theorem dX5_init_549 : decode cX5_init 549 = .ok (.iastore, 1) := by decide +kernel
theorem dX5_init_550 : decode cX5_init 550 = .ok (.dup, 1) := by decide +kernel
theorem dX5_init_551 : decode cX5_init 551 = .ok (.bipush 81, 2) := by decide +kernel
theorem dX5_init_553 : decode cX5_init 553 = .ok (.sipush 1001, 3) := by decide +kernel
theorem dX5_init_556 : decode cX5_init 556 = .ok (.iastore, 1) := by decide +kernel
theorem dX5_init_557 : decode cX5_init 557 = .ok (.dup, 1) := by decide +kernel
theorem dX5_init_558 : decode cX5_init 558 = .ok (.bipush 82, 2) := by decide +kernel
theorem dX5_init_560 : decode cX5_init 560 = .ok (.bipush 31, 2) := by decide +kernel
theorem dX5_init_562 : decode cX5_init 562 = .ok (.iastore, 1) := by decide +kernel
theorem dX5_init_563 : decode cX5_init 563 = .ok (.dup, 1) := by decide +kernel
theorem dX5_init_564 : decode cX5_init 564 = .ok (.bipush 83, 2) := by decide +kernel
theorem dX5_init_566 : decode cX5_init 566 = .ok (.sipush 1005, 3) := by decide +kernel
theorem dX5_init_569 : decode cX5_init 569 = .ok (.iastore, 1) := by decide +kernel
theorem dX5_init_570 : decode cX5_init 570 = .ok (.dup, 1) := by decide +kernel
theorem dX5_init_571 : decode cX5_init 571 = .ok (.bipush 84, 2) := by decide +kernel
theorem dX5_init_573 : decode cX5_init 573 = .ok (.sipush 1000, 3) := by decide +kernel
theorem dX5_init_576 : decode cX5_init 576 = .ok (.iastore, 1) := by decide +kernel
theorem dX5_init_577 : decode cX5_init 577 = .ok (.dup, 1) := by decide +kernel
theorem dX5_init_578 : decode cX5_init 578 = .ok (.bipush 85, 2) := by decide +kernel
theorem dX5_init_580 : decode cX5_init 580 = .ok (.sipush 1003, 3) := by decide +kernel
theorem dX5_init_583 : decode cX5_init 583 = .ok (.iastore, 1) := by decide +kernel
theorem dX5_init_584 : decode cX5_init 584 = .ok (.dup, 1) := by decide +kernel
theorem dX5_init_585 : decode cX5_init 585 = .ok (.bipush 86, 2) := by decide +kernel
theorem dX5_init_587 : decode cX5_init 587 = .ok (.sipush 1008, 3) := by decide +kernel
theorem dX5_init_590 : decode cX5_init 590 = .ok (.iastore, 1) := by decide +kernel
theorem dX5_init_591 : decode cX5_init 591 = .ok (.dup, 1) := by decide +kernel
theorem dX5_init_592 : decode cX5_init 592 = .ok (.bipush 87, 2) := by decide +kernel
theorem dX5_init_594 : decode cX5_init 594 = .ok (.sipush 1001, 3) := by decide +kernel
theorem dX5_init_597 : decode cX5_init 597 = .ok (.iastore, 1) := by decide +kernel
theorem dX5_init_598 : decode cX5_init 598 = .ok (.dup, 1) := by decide +kernel
theorem dX5_init_599 : decode cX5_init 599 = .ok (.bipush 88, 2) := by decide +kernel
theorem dX5_init_601 : decode cX5_init 601 = .ok (.sipush 3063, 3) := by decide +kernel
theorem dX5_init_604 : decode cX5_init 604 = .ok (.iastore, 1) := by decide +kernel
theorem dX5_init_605 : decode cX5_init 605 = .ok (.dup, 1) := by decide +kernel
theorem dX5_init_606 : decode cX5_init 606 = .ok (.bipush 89, 2) := by decide +kernel
theorem dX5_init_608 : decode cX5_init 608 = .ok (.sipush 1001, 3) := by decide +kernel
theorem dX5_init_611 : decode cX5_init 611 = .ok (.iastore, 1) := by decide +kernel
theorem dX5_init_612 : decode cX5_init 612 = .ok (.dup, 1) := by decide +kernel
theorem dX5_init_613 : decode cX5_init 613 = .ok (.bipush 90, 2) := by decide +kernel
theorem dX5_init_615 : decode cX5_init 615 = .ok (.sipush 1000, 3) := by decide +kernel
theorem dX5_init_618 : decode cX5_init 618 = .ok (.iastore, 1) := by decide +kernel
theorem dX5_init_619 : decode cX5_init 619 = .ok (.dup, 1) := by decide +kernel
theorem dX5_init_620 : decode cX5_init 620 = .ok (.bipush 91, 2) := by decide +kernel
theorem dX5_init_622 : decode cX5_init 622 = .ok (.sipush 1006, 3) := by decide +kernel
theorem dX5_init_625 : decode cX5_init 625 = .ok (.iastore, 1) := by decide +kernel
theorem dX5_init_626 : decode cX5_init 626 = .ok (.dup, 1) := by decide +kernel
theorem dX5_init_627 : decode cX5_init 627 = .ok (.bipush 92, 2) := by decide +kernel
theorem dX5_init_629 : decode cX5_init 629 = .ok (.sipush 3064, 3) := by decide +kernel
theorem dX5_init_632 : decode cX5_init 632 = .ok (.iastore, 1) := by decide +kernel
theorem dX5_init_633 : decode cX5_init 633 = .ok (.dup, 1) := by decide +kernel
theorem dX5_init_634 : decode cX5_init 634 = .ok (.bipush 93, 2) := by decide +kernel
theorem dX5_init_636 : decode cX5_init 636 = .ok (.sipush 1000, 3) := by decide +kernel
theorem dX5_init_639 : decode cX5_init 639 = .ok (.iastore, 1) := by decide +kernel
theorem dX5_init_640 : decode cX5_init 640 = .ok (.dup, 1) := by decide +kernel
theorem dX5_init_641 : decode cX5_init 641 = .ok (.bipush 94, 2) := by decide +kernel
end
section
theorem dX5_init_643 : decode cX5_init 643 = .ok (.sipush 1109, 3) := by decide +kernel
theorem dX5_init_646 : decode cX5_init 646 = .ok (.iastore, 1) := by decide +kernel
theorem dX5_init_647 : decode cX5_init 647 = .ok (.dup, 1) := by decide +kernel
theorem dX5_init_648 : decode cX5_init 648 = .ok (.bipush 95, 2) := by decide +kernel
theorem dX5_init_650 : decode cX5_init 650 = .ok (.iconst 1, 1) := by decide +kernel
theorem dX5_init_651 : decode cX5_init 651 = .ok (.iastore, 1) := by decide +kernel
theorem dX5_init_652 : decode cX5_init 652 = .ok (.dup, 1) := by decide +kernel
theorem dX5_init_653 : decode cX5_init 653 = .ok (.bipush 96, 2) := by decide +kernel
theorem dX5_init_655 : decode cX5_init 655 = .ok (.sipush 1110, 3) := by decide +kernel
theorem dX5_init_658 : decode cX5_init 658 = .ok (.iastore, 1) := by decide +kernel
theorem dX5_init_659 : decode cX5_init 659 = .ok (.dup, 1) := by decide +kernel
theorem dX5_init_660 : decode cX5_init 660 = .ok (.bipush 97, 2) := by decide +kernel
theorem dX5_init_662 : decode cX5_init 662 = .ok (.sipush 1003, 3) := by decide +kernel
theorem dX5_init_665 : decode cX5_init 665 = .ok (.iastore, 1) := by decide +kernel
theorem dX5_init_666 : decode cX5_init 666 = .ok (.dup, 1) := by decide +kernel
theorem dX5_init_667 : decode cX5_init 667 = .ok (.bipush 98, 2) := by decide +kernel
theorem dX5_init_669 : decode cX5_init 669 = .ok (.sipush 1000, 3) := by decide +kernel
theorem dX5_init_672 : decode cX5_init 672 = .ok (.iastore, 1) := by decide +kernel
theorem dX5_init_673 : decode cX5_init 673 = .ok (.dup, 1) := by decide +kernel
theorem dX5_init_674 : decode cX5_init 674 = .ok (.bipush 99, 2) := by decide +kernel
theorem dX5_init_676 : decode cX5_init 676 = .ok (.sipush 2063, 3) := by decide +kernel
theorem dX5_init_679 : decode cX5_init 679 = .ok (.iastore, 1) := by decide +kernel
theorem dX5_init_680 : decode cX5_init 680 = .ok (.dup, 1) := by decide +kernel
theorem dX5_init_681 : decode cX5_init 681 = .ok (.bipush 100, 2) := by decide +kernel
theorem dX5_init_683 : decode cX5_init 683 = .ok (.sipush 1003, 3) := by decide +kernel
theorem dX5_init_686 : decode cX5_init 686 = .ok (.iastore, 1) := by decide +kernel
theorem dX5_init_687 : decode cX5_init 687 = .ok (.dup, 1) := by decide +kernel
theorem dX5_init_688 : decode cX5_init 688 = .ok (.bipush 101, 2) := by decide +kernel
theorem dX5_init_690 : decode cX5_init 690 = .ok (.sipush 3070, 3) := by decide +kernel
theorem dX5_init_693 : decode cX5_init 693 = .ok (.iastore, 1) := by decide +kernel
theorem dX5_init_694 : decode cX5_init 694 = .ok (.dup, 1) := by decide +kernel
theorem dX5_init_695 : decode cX5_init 695 = .ok (.bipush 102, 2) := by decide +kernel
theorem dX5_init_697 : decode cX5_init 697 = .ok (.sipush 1002, 3) := by decide +kernel
theorem dX5_init_700 : decode cX5_init 700 = .ok (.iastore, 1) := by decide +kernel
theorem dX5_init_701 : decode cX5_init 701 = .ok (.dup, 1) := by decide +kernel
theorem dX5_init_702 : decode cX5_init 702 = .ok (.bipush 103, 2) := by decide +kernel
theorem dX5_init_704 : decode cX5_init 704 = .ok (.iconst 1, 1) := by decide +kernel
theorem dX5_init_705 : decode cX5_init 705 = .ok (.iastore, 1) := by decide +kernel
theorem dX5_init_706 : decode cX5_init 706 = .ok (.dup, 1) := by decide +kernel
theorem dX5_init_707 : decode cX5_init 707 = .ok (.bipush 104, 2) := by decide +kernel
theorem dX5_init_709 : decode cX5_init 709 = .ok (.sipush 1003, 3) := by decide +kernel
theorem dX5_init_712 : decode cX5_init 712 = .ok (.iastore, 1) := by decide +kernel
theorem dX5_init_713 : decode cX5_init 713 = .ok (.dup, 1) := by decide +kernel
theorem dX5_init_714 : decode cX5_init 714 = .ok (.bipush 105, 2) := by decide +kernel
theorem dX5_init_716 : decode cX5_init 716 = .ok (.sipush 1009, 3) := by decide +kernel
theorem dX5_init_719 : decode cX5_init 719 = .ok (.iastore, 1) := by decide +kernel
theorem dX5_init_720 : decode cX5_init 720 = .ok (.dup, 1) := by decide +kernel
theorem dX5_init_721 : decode cX5_init 721 = .ok (.bipush 106, 2) := by decide +kernel
theorem dX5_init_723 : decode cX5_init 723 = .ok (.sipush 1002, 3) := by decide +kernel
theorem dX5_init_726 : decode cX5_init 726 = .ok (.iastore, 1) := by decide +kernel
theorem dX5_init_727 : decode cX5_init 727 = .ok (.dup, 1) := by decide +kernel
theorem dX5_init_728 : decode cX5_init 728 = .ok (.bipush 107, 2) := by decide +kernel
theorem dX5_init_730 : decode cX5_init 730 = .ok (.bipush 7, 2) := by decide +kernel
theorem dX5_init_732 : decode cX5_init 732 = .ok (.iastore, 1) := by decide +kernel
theorem dX5_init_733 : decode cX5_init 733 = .ok (.dup, 1) := by decide +kernel
theorem dX5_init_734 : decode cX5_init 734 = .ok (.bipush 108, 2) := by decide +kernel
theorem dX5_init_736 : decode cX5_init 736 = .ok (.sipush 1005, 3) := by decide +kernel
theorem dX5_init_739 : decode cX5_init 739 = .ok (.iastore, 1) := by decide +kernel
theorem dX5_init_740 : decode cX5_init 740 = .ok (.dup, 1) := by decide +kernel
theorem dX5_init_741 : decode cX5_init 741 = .ok (.bipush 109, 2) := by decide +kernel
theorem dX5_init_743 : decode cX5_init 743 = .ok (.sipush 1000, 3) := by decide +kernel
theorem dX5_init_746 : decode cX5_init 746 = .ok (.iastore, 1) := by decide +kernel
theorem dX5_init_747 : decode cX5_init 747 = .ok (.dup, 1) := by decide +kernel
theorem dX5_init_748 : decode cX5_init 748 = .ok (.bipush 110, 2) := by decide +kernel
theorem dX5_init_750 : decode cX5_init 750 = .ok (.sipush 1003, 3) := by decide +kernel
theorem dX5_init_753 : decode cX5_init 753 = .ok (.iastore, 1) := by decide +kernel
theorem dX5_init_754 : decode cX5_init 754 = .ok (.dup, 1) := by decide +kernel
theorem dX5_init_755 : decode cX5_init 755 = .ok (.bipush 111, 2) := by decide +kernel
theorem dX5_init_757 : decode cX5_init 757 = .ok (.sipush 3100, 3) := by decide +kernel
theorem dX5_init_760 : decode cX5_init 760 = .ok (.iastore, 1) := by decide +kernel
theorem dX5_init_761 : decode cX5_init 761 = .ok (.dup, 1) := by decide +kernel
theorem dX5_init_762 : decode cX5_init 762 = .ok (.bipush 112, 2) := by decide +kernel
theorem dX5_init_764 : decode cX5_init 764 = .ok (.sipush 1001, 3) := by decide +kernel
theorem dX5_init_767 : decode cX5_init 767 = .ok (.iastore, 1) := by decide +kernel
theorem dX5_init_768 : decode cX5_init 768 = .ok (.dup, 1) := by decide +kernel
theorem dX5_init_769 : decode cX5_init 769 = .ok (.bipush 113, 2) := by decide +kernel
theorem dX5_init_771 : decode cX5_init 771 = .ok (.sipush 1000, 3) := by decide +kernel
theorem dX5_init_774 : decode cX5_init 774 = .ok (.iastore, 1) := by decide +kernel
theorem dX5_init_775 : decode cX5_init 775 = .ok (.dup, 1) := by decide +kernel
theorem dX5_init_776 : decode cX5_init 776 = .ok (.bipush 114, 2) := by decide +kernel
theorem dX5_init_778 : decode cX5_init 778 = .ok (.sipush 1003, 3) := by decide +kernel
theorem dX5_init_781 : decode cX5_init 781 = .ok (.iastore, 1) := by decide +kernel
theorem dX5_init_782 : decode cX5_init 782 = .ok (.dup, 1) := by decide +kernel
theorem dX5_init_783 : decode cX5_init 783 = .ok (.bipush 115, 2) := by decide +kernel
theorem dX5_init_785 : decode cX5_init 785 = .ok (.sipush 3101, 3) := by decide +kernel
theorem dX5_init_788 : decode cX5_init 788 = .ok (.iastore, 1) := by decide +kernel
theorem dX5_init_789 : decode cX5_init 789 = .ok (.dup, 1) := by decide +kernel
theorem dX5_init_790 : decode cX5_init 790 = .ok (.bipush 116, 2) := by decide +kernel
theorem dX5_init_792 : decode cX5_init 792 = .ok (.sipush 1000, 3) := by decide +kernel
theorem dX5_init_795 : decode cX5_init 795 = .ok (.iastore, 1) := by decide +kernel
theorem dX5_init_796 : decode cX5_init 796 = .ok (.dup, 1) := by decide +kernel
theorem dX5_init_797 : decode cX5_init 797 = .ok (.bipush 117, 2) := by decide +kernel
theorem dX5_init_799 : decode cX5_init 799 = .ok (.iconst 2, 1) := by decide +kernel
theorem dX5_init_800 : decode cX5_init 800 = .ok (.iastore, 1) := by decide +kernel
theorem dX5_init_801 : decode cX5_init 801 = .ok (.dup, 1) := by decide +kernel
theorem dX5_init_802 : decode cX5_init 802 = .ok (.bipush 118, 2) := by decide +kernel
theorem dX5_init_804 : decode cX5_init 804 = .ok (.sipush 1003, 3) := by decide +kernel
theorem dX5_init_807 : decode cX5_init 807 = .ok (.iastore, 1) := by decide +kernel
theorem dX5_init_808 : decode cX5_init 808 = .ok (.dup, 1) := by decide +kernel
theorem dX5_init_809 : decode cX5_init 809 = .ok (.bipush 119, 2) := by decide +kernel
theorem dX5_init_811 : decode cX5_init 811 = .ok (.sipush 1209, 3) := by decide +kernel
theorem dX5_init_814 : decode cX5_init 814 = .ok (.iastore, 1) := by decide +kernel
theorem dX5_init_815 : decode cX5_init 815 = .ok (.dup, 1) := by decide +kernel
theorem dX5_init_816 : decode cX5_init 816 = .ok (.bipush 120, 2) := by decide +kernel
theorem dX5_init_818 : decode cX5_init 818 = .ok (.iconst 1, 1) := by decide +kernel
theorem dX5_init_819 : decode cX5_init 819 = .ok (.iastore, 1) := by decide +kernel
theorem dX5_init_820 : decode cX5_init 820 = .ok (.dup, 1) := by decide +kernel
theorem dX5_init_821 : decode cX5_init 821 = .ok (.bipush 121, 2) := by decide +kernel
theorem dX5_init_823 : decode cX5_init 823 = .ok (.sipush 1003, 3) := by decide +kernel
theorem dX5_init_826 : decode cX5_init 826 = .ok (.iastore, 1) := by decide +kernel
theorem dX5_init_827 : decode cX5_init 827 = .ok (.dup, 1) := by decide +kernel
theorem dX5_init_828 : decode cX5_init 828 = .ok (.bipush 122, 2) := by decide +kernel
theorem dX5_init_830 : decode cX5_init 830 = .ok (.sipush 3110, 3) := by decide +kernel
theorem dX5_init_833 : decode cX5_init 833 = .ok (.iastore, 1) := by decide +kernel
theorem dX5_init_834 : decode cX5_init 834 = .ok (.dup, 1) := by decide +kernel
theorem dX5_init_835 : decode cX5_init 835 = .ok (.bipush 123, 2) := by decide +kernel
theorem dX5_init_837 : decode cX5_init 837 = .ok (.sipush 1000, 3) := by decide +kernel
theorem dX5_init_840 : decode cX5_init 840 = .ok (.iastore, 1) := by decide +kernel
theorem dX5_init_841 : decode cX5_init 841 = .ok (.dup, 1) := by decide +kernel
theorem dX5_init_842 : decode cX5_init 842 = .ok (.bipush 124, 2) := by decide +kernel
theorem dX5_init_844 : decode cX5_init 844 = .ok (.sipush 1210, 3) := by decide +kernel
theorem dX5_init_847 : decode cX5_init 847 = .ok (.iastore, 1) := by decide +kernel
theorem dX5_init_848 : decode cX5_init 848 = .ok (.dup, 1) := by decide +kernel
theorem dX5_init_849 : decode cX5_init 849 = .ok (.bipush 125, 2) := by decide +kernel
theorem dX5_init_851 : decode cX5_init 851 = .ok (.iconst 2, 1) := by decide +kernel
theorem dX5_init_852 : decode cX5_init 852 = .ok (.iastore, 1) := by decide +kernel
theorem dX5_init_853 : decode cX5_init 853 = .ok (.dup, 1) := by decide +kernel
theorem dX5_init_854 : decode cX5_init 854 = .ok (.bipush 126, 2) := by decide +kernel
theorem dX5_init_856 : decode cX5_init 856 = .ok (.sipush 1005, 3) := by decide +kernel
theorem dX5_init_859 : decode cX5_init 859 = .ok (.iastore, 1) := by decide +kernel
theorem dX5_init_860 : decode cX5_init 860 = .ok (.dup, 1) := by decide +kernel
theorem dX5_init_861 : decode cX5_init 861 = .ok (.bipush 127, 2) := by decide +kernel
theorem dX5_init_863 : decode cX5_init 863 = .ok (.sipush 1000, 3) := by decide +kernel
theorem dX5_init_866 : decode cX5_init 866 = .ok (.iastore, 1) := by decide +kernel
theorem dX5_init_867 : decode cX5_init 867 = .ok (.dup, 1) := by decide +kernel
theorem dX5_init_868 : decode cX5_init 868 = .ok (.sipush 128, 3) := by decide +kernel
theorem dX5_init_871 : decode cX5_init 871 = .ok (.sipush 2112, 3) := by decide +kernel
theorem dX5_init_874 : decode cX5_init 874 = .ok (.iastore, 1) := by decide +kernel
theorem dX5_init_875 : decode cX5_init 875 = .ok (.dup, 1) := by decide +kernel
theorem dX5_init_876 : decode cX5_init 876 = .ok (.sipush 129, 3) := by decide +kernel
theorem dX5_init_879 : decode cX5_init 879 = .ok (.sipush 1003, 3) := by decide +kernel
theorem dX5_init_882 : decode cX5_init 882 = .ok (.iastore, 1) := by decide +kernel
theorem dX5_init_883 : decode cX5_init 883 = .ok (.dup, 1) := by decide +kernel
theorem dX5_init_884 : decode cX5_init 884 = .ok (.sipush 130, 3) := by decide +kernel
theorem dX5_init_887 : decode cX5_init 887 = .ok (.sipush 3111, 3) := by decide +kernel
theorem dX5_init_890 : decode cX5_init 890 = .ok (.iastore, 1) := by decide +kernel
theorem dX5_init_891 : decode cX5_init 891 = .ok (.dup, 1) := by decide +kernel
theorem dX5_init_892 : decode cX5_init 892 = .ok (.sipush 131, 3) := by decide +kernel
theorem dX5_init_895 : decode cX5_init 895 = .ok (.sipush 1000, 3) := by decide +kernel
theorem dX5_init_898 : decode cX5_init 898 = .ok (.iastore, 1) := by decide +kernel
theorem dX5_init_899 : decode cX5_init 899 = .ok (.dup, 1) := by decide +kernel
theorem dX5_init_900 : decode cX5_init 900 = .ok (.sipush 132, 3) := by decide +kernel
theorem dX5_init_903 : decode cX5_init 903 = .ok (.sipush 1328, 3) := by decide +kernel
theorem dX5_init_906 : decode cX5_init 906 = .ok (.iastore, 1) := by decide +kernel
theorem dX5_init_907 : decode cX5_init 907 = .ok (.dup, 1) := by decide +kernel
theorem dX5_init_908 : decode cX5_init 908 = .ok (.sipush 133, 3) := by decide +kernel
theorem dX5_init_911 : decode cX5_init 911 = .ok (.iconst 1, 1) := by decide +kernel
theorem dX5_init_912 : decode cX5_init 912 = .ok (.iastore, 1) := by decide +kernel
theorem dX5_init_913 : decode cX5_init 913 = .ok (.dup, 1) := by decide +kernel
theorem dX5_init_914 : decode cX5_init 914 = .ok (.sipush 134, 3) := by decide +kernel
theorem dX5_init_917 : decode cX5_init 917 = .ok (.sipush 1004, 3) := by decide +kernel
theorem dX5_init_920 : decode cX5_init 920 = .ok (.iastore, 1) := by decide +kernel
theorem dX5_init_921 : decode cX5_init 921 = .ok (.dup, 1) := by decide +kernel
theorem dX5_init_922 : decode cX5_init 922 = .ok (.sipush 135, 3) := by decide +kernel
theorem dX5_init_925 : decode cX5_init 925 = .ok (.sipush 3112, 3) := by decide +kernel
theorem dX5_init_928 : decode cX5_init 928 = .ok (.iastore, 1) := by decide +kernel
theorem dX5_init_929 : decode cX5_init 929 = .ok (.dup, 1) := by decide +kernel
theorem dX5_init_930 : decode cX5_init 930 = .ok (.sipush 136, 3) := by decide +kernel
theorem dX5_init_933 : decode cX5_init 933 = .ok (.sipush 1002, 3) := by decide +kernel
theorem dX5_init_936 : decode cX5_init 936 = .ok (.iastore, 1) := by decide +kernel
theorem dX5_init_937 : decode cX5_init 937 = .ok (.dup, 1) := by decide +kernel
theorem dX5_init_938 : decode cX5_init 938 = .ok (.sipush 137, 3) := by decide +kernel
theorem dX5_init_941 : decode cX5_init 941 = .ok (.sipush 1000, 3) := by decide +kernel
theorem dX5_init_944 : decode cX5_init 944 = .ok (.iastore, 1) := by decide +kernel
theorem dX5_init_945 : decode cX5_init 945 = .ok (.dup, 1) := by decide +kernel
theorem dX5_init_946 : decode cX5_init 946 = .ok (.sipush 138, 3) := by decide +kernel
theorem dX5_init_949 : decode cX5_init 949 = .ok (.sipush 1004, 3) := by decide +kernel
theorem dX5_init_952 : decode cX5_init 952 = .ok (.iastore, 1) := by decide +kernel
theorem dX5_init_953 : decode cX5_init 953 = .ok (.dup, 1) := by decide +kernel
theorem dX5_init_954 : decode cX5_init 954 = .ok (.sipush 139, 3) := by decide +kernel
theorem dX5_init_957 : decode cX5_init 957 = .ok (.sipush 3120, 3) := by decide +kernel
theorem dX5_init_960 : decode cX5_init 960 = .ok (.iastore, 1) := by decide +kernel
theorem dX5_init_961 : decode cX5_init 961 = .ok (.dup, 1) := by decide +kernel
theorem dX5_init_962 : decode cX5_init 962 = .ok (.sipush 140, 3) := by decide +kernel
theorem dX5_init_965 : decode cX5_init 965 = .ok (.sipush 1000, 3) := by decide +kernel
theorem dX5_init_968 : decode cX5_init 968 = .ok (.iastore, 1) := by decide +kernel
theorem dX5_init_969 : decode cX5_init 969 = .ok (.dup, 1) := by decide +kernel
theorem dX5_init_970 : decode cX5_init 970 = .ok (.sipush 141, 3) := by decide +kernel
theorem dX5_init_973 : decode cX5_init 973 = .ok (.sipush 1105, 3) := by decide +kernel
theorem dX5_init_976 : decode cX5_init 976 = .ok (.iastore, 1) := by decide +kernel
theorem dX5_init_977 : decode cX5_init 977 = .ok (.dup, 1) := by decide +kernel
theorem dX5_init_978 : decode cX5_init 978 = .ok (.sipush 142, 3) := by decide +kernel
theorem dX5_init_981 : decode cX5_init 981 = .ok (.iconst 3, 1) := by decide +kernel
theorem dX5_init_982 : decode cX5_init 982 = .ok (.iastore, 1) := by decide +kernel
theorem dX5_init_983 : decode cX5_init 983 = .ok (.dup, 1) := by decide +kernel
theorem dX5_init_984 : decode cX5_init 984 = .ok (.sipush 143, 3) := by decide +kernel
theorem dX5_init_987 : decode cX5_init 987 = .ok (.sipush 1005, 3) := by decide +kernel
theorem dX5_init_990 : decode cX5_init 990 = .ok (.iastore, 1) := by decide +kernel
theorem dX5_init_991 : decode cX5_init 991 = .ok (.dup, 1) := by decide +kernel
theorem dX5_init_992 : decode cX5_init 992 = .ok (.sipush 144, 3) := by decide +kernel
theorem dX5_init_995 : decode cX5_init 995 = .ok (.sipush 1001, 3) := by decide +kernel
theorem dX5_init_998 : decode cX5_init 998 = .ok (.iastore, 1) := by decide +kernel
theorem dX5_init_999 : decode cX5_init 999 = .ok (.dup, 1) := by decide +kernel
theorem dX5_init_1000 : decode cX5_init 1000 = .ok (.sipush 145, 3) := by decide +kernel
theorem dX5_init_1003 : decode cX5_init 1003 = .ok (.sipush 1003, 3) := by decide +kernel
theorem dX5_init_1006 : decode cX5_init 1006 = .ok (.iastore, 1) := by decide +kernel
theorem dX5_init_1007 : decode cX5_init 1007 = .ok (.dup, 1) := by decide +kernel
theorem dX5_init_1008 : decode cX5_init 1008 = .ok (.sipush 146, 3) := by decide +kernel
theorem dX5_init_1011 : decode cX5_init 1011 = .ok (.sipush 3130, 3) := by decide +kernel
theorem dX5_init_1014 : decode cX5_init 1014 = .ok (.iastore, 1) := by decide +kernel
theorem dX5_init_1015 : decode cX5_init 1015 = .ok (.dup, 1) := by decide +kernel
theorem dX5_init_1016 : decode cX5_init 1016 = .ok (.sipush 147, 3) := by decide +kernel
theorem dX5_init_1019 : decode cX5_init 1019 = .ok (.sipush 1000, 3) := by decide +kernel
theorem dX5_init_1022 : decode cX5_init 1022 = .ok (.iastore, 1) := by decide +kernel
theorem dX5_init_1023 : decode cX5_init 1023 = .ok (.dup, 1) := by decide +kernel
theorem dX5_init_1024 : decode cX5_init 1024 = .ok (.sipush 148, 3) := by decide +kernel
theorem dX5_init_1027 : decode cX5_init 1027 = .ok (.sipush 1200, 3) := by decide +kernel
theorem dX5_init_1030 : decode cX5_init 1030 = .ok (.iastore, 1) := by decide +kernel
theorem dX5_init_1031 : decode cX5_init 1031 = .ok (.dup, 1) := by decide +kernel
theorem dX5_init_1032 : decode cX5_init 1032 = .ok (.sipush 149, 3) := by decide +kernel
theorem dX5_init_1035 : decode cX5_init 1035 = .ok (.iconst 3, 1) := by decide +kernel
theorem dX5_init_1036 : decode cX5_init 1036 = .ok (.iastore, 1) := by decide +kernel
theorem dX5_init_1037 : decode cX5_init 1037 = .ok (.dup, 1) := by decide +kernel
theorem dX5_init_1038 : decode cX5_init 1038 = .ok (.sipush 150, 3) := by decide +kernel
theorem dX5_init_1041 : decode cX5_init 1041 = .ok (.sipush 1005, 3) := by decide +kernel
theorem dX5_init_1044 : decode cX5_init 1044 = .ok (.iastore, 1) := by decide +kernel
theorem dX5_init_1045 : decode cX5_init 1045 = .ok (.dup, 1) := by decide +kernel
theorem dX5_init_1046 : decode cX5_init 1046 = .ok (.sipush 151, 3) := by decide +kernel
theorem dX5_init_1049 : decode cX5_init 1049 = .ok (.sipush 3131, 3) := by decide +kernel
theorem dX5_init_1052 : decode cX5_init 1052 = .ok (.iastore, 1) := by decide +kernel
theorem dX5_init_1053 : decode cX5_init 1053 = .ok (.dup, 1) := by decide +kernel
theorem dX5_init_1054 : decode cX5_init 1054 = .ok (.sipush 152, 3) := by decide +kernel
theorem dX5_init_1057 : decode cX5_init 1057 = .ok (.sipush 1000, 3) := by decide +kernel
theorem dX5_init_1060 : decode cX5_init 1060 = .ok (.iastore, 1) := by decide +kernel
theorem dX5_init_1061 : decode cX5_init 1061 = .ok (.dup, 1) := by decide +kernel
theorem dX5_init_1062 : decode cX5_init 1062 = .ok (.sipush 153, 3) := by decide +kernel
theorem dX5_init_1065 : decode cX5_init 1065 = .ok (.iconst 1, 1) := by decide +kernel
theorem dX5_init_1066 : decode cX5_init 1066 = .ok (.iastore, 1) := by decide +kernel
theorem dX5_init_1067 : decode cX5_init 1067 = .ok (.dup, 1) := by decide +kernel
theorem dX5_init_1068 : decode cX5_init 1068 = .ok (.sipush 154, 3) := by decide +kernel
theorem dX5_init_1071 : decode cX5_init 1071 = .ok (.sipush 1003, 3) := by decide +kernel
theorem dX5_init_1074 : decode cX5_init 1074 = .ok (.iastore, 1) := by decide +kernel
theorem dX5_init_1075 : decode cX5_init 1075 = .ok (.dup, 1) := by decide +kernel
theorem dX5_init_1076 : decode cX5_init 1076 = .ok (.sipush 155, 3) := by decide +kernel
theorem dX5_init_1079 : decode cX5_init 1079 = .ok (.sipush 1201, 3) := by decide +kernel
theorem dX5_init_1082 : decode cX5_init 1082 = .ok (.iastore, 1) := by decide +kernel
theorem dX5_init_1083 : decode cX5_init 1083 = .ok (.dup, 1) := by decide +kernel
theorem dX5_init_1084 : decode cX5_init 1084 = .ok (.sipush 156, 3) := by decide +kernel
theorem dX5_init_1087 : decode cX5_init 1087 = .ok (.iconst 5, 1) := by decide +kernel
theorem dX5_init_1088 : decode cX5_init 1088 = .ok (.iastore, 1) := by decide +kernel
theorem dX5_init_1089 : decode cX5_init 1089 = .ok (.dup, 1) := by decide +kernel
theorem dX5_init_1090 : decode cX5_init 1090 = .ok (.sipush 157, 3) := by decide +kernel
theorem dX5_init_1093 : decode cX5_init 1093 = .ok (.sipush 1003, 3) := by decide +kernel
theorem dX5_init_1096 : decode cX5_init 1096 = .ok (.iastore, 1) := by decide +kernel
theorem dX5_init_1097 : decode cX5_init 1097 = .ok (.dup, 1) := by decide +kernel
theorem dX5_init_1098 : decode cX5_init 1098 = .ok (.sipush 158, 3) := by decide +kernel
theorem dX5_init_1101 : decode cX5_init 1101 = .ok (.sipush 3140, 3) := by decide +kernel
theorem dX5_init_1104 : decode cX5_init 1104 = .ok (.iastore, 1) := by decide +kernel
theorem dX5_init_1105 : decode cX5_init 1105 = .ok (.dup, 1) := by decide +kernel
theorem dX5_init_1106 : decode cX5_init 1106 = .ok (.sipush 159, 3) := by decide +kernel
theorem dX5_init_1109 : decode cX5_init 1109 = .ok (.sipush 1001, 3) := by decide +kernel
theorem dX5_init_1112 : decode cX5_init 1112 = .ok (.iastore, 1) := by decide +kernel
theorem dX5_init_1113 : decode cX5_init 1113 = .ok (.dup, 1) := by decide +kernel
theorem dX5_init_1114 : decode cX5_init 1114 = .ok (.sipush 160, 3) := by decide +kernel
theorem dX5_init_1117 : decode cX5_init 1117 = .ok (.sipush 1000, 3) := by decide +kernel
theorem dX5_init_1120 : decode cX5_init 1120 = .ok (.iastore, 1) := by decide +kernel
theorem dX5_init_1121 : decode cX5_init 1121 = .ok (.dup, 1) := by decide +kernel
theorem dX5_init_1122 : decode cX5_init 1122 = .ok (.sipush 161, 3) := by decide +kernel
theorem dX5_init_1125 : decode cX5_init 1125 = .ok (.sipush 1004, 3) := by decide +kernel
theorem dX5_init_1128 : decode cX5_init 1128 = .ok (.iastore, 1) := by decide +kernel
theorem dX5_init_1129 : decode cX5_init 1129 = .ok (.dup, 1) := by decide +kernel
theorem dX5_init_1130 : decode cX5_init 1130 = .ok (.sipush 162, 3) := by decide +kernel
theorem dX5_init_1133 : decode cX5_init 1133 = .ok (.sipush 3141, 3) := by decide +kernel
theorem dX5_init_1136 : decode cX5_init 1136 = .ok (.iastore, 1) := by decide +kernel
theorem dX5_init_1137 : decode cX5_init 1137 = .ok (.dup, 1) := by decide +kernel
theorem dX5_init_1138 : decode cX5_init 1138 = .ok (.sipush 163, 3) := by decide +kernel
theorem dX5_init_1141 : decode cX5_init 1141 = .ok (.sipush 1000, 3) := by decide +kernel
theorem dX5_init_1144 : decode cX5_init 1144 = .ok (.iastore, 1) := by decide +kernel
theorem dX5_init_1145 : decode cX5_init 1145 = .ok (.dup, 1) := by decide +kernel
theorem dX5_init_1146 : decode cX5_init 1146 = .ok (.sipush 164, 3) := by decide +kernel
theorem dX5_init_1149 : decode cX5_init 1149 = .ok (.sipush 1202, 3) := by decide +kernel
theorem dX5_init_1152 : decode cX5_init 1152 = .ok (.iastore, 1) := by decide +kernel
theorem dX5_init_1153 : decode cX5_init 1153 = .ok (.dup, 1) := by decide +kernel
theorem dX5_init_1154 : decode cX5_init 1154 = .ok (.sipush 165, 3) := by decide +kernel
theorem dX5_init_1157 : decode cX5_init 1157 = .ok (.iconst 1, 1) := by decide +kernel
theorem dX5_init_1158 : decode cX5_init 1158 = .ok (.iastore, 1) := by decide +kernel
theorem dX5_init_1159 : decode cX5_init 1159 = .ok (.dup, 1) := by decide +kernel
theorem dX5_init_1160 : decode cX5_init 1160 = .ok (.sipush 166, 3) := by decide +kernel
theorem dX5_init_1163 : decode cX5_init 1163 = .ok (.sipush 1314, 3) := by decide +kernel
theorem dX5_init_1166 : decode cX5_init 1166 = .ok (.iastore, 1) := by decide +kernel
theorem dX5_init_1167 : decode cX5_init 1167 = .ok (.dup, 1) := by decide +kernel
theorem dX5_init_1168 : decode cX5_init 1168 = .ok (.sipush 167, 3) := by decide +kernel
theorem dX5_init_1171 : decode cX5_init 1171 = .ok (.sipush 1004, 3) := by decide +kernel
theorem dX5_init_1174 : decode cX5_init 1174 = .ok (.iastore, 1) := by decide +kernel
theorem dX5_init_1175 : decode cX5_init 1175 = .ok (.dup, 1) := by decide +kernel
theorem dX5_init_1176 : decode cX5_init 1176 = .ok (.sipush 168, 3) := by decide +kernel
theorem dX5_init_1179 : decode cX5_init 1179 = .ok (.sipush 3142, 3) := by decide +kernel
theorem dX5_init_1182 : decode cX5_init 1182 = .ok (.iastore, 1) := by decide +kernel
theorem dX5_init_1183 : decode cX5_init 1183 = .ok (.dup, 1) := by decide +kernel
theorem dX5_init_1184 : decode cX5_init 1184 = .ok (.sipush 169, 3) := by decide +kernel
theorem dX5_init_1187 : decode cX5_init 1187 = .ok (.sipush 1000, 3) := by decide +kernel
theorem dX5_init_1190 : decode cX5_init 1190 = .ok (.iastore, 1) := by decide +kernel
theorem dX5_init_1191 : decode cX5_init 1191 = .ok (.dup, 1) := by decide +kernel
theorem dX5_init_1192 : decode cX5_init 1192 = .ok (.sipush 170, 3) := by decide +kernel
theorem dX5_init_1195 : decode cX5_init 1195 = .ok (.iconst 1, 1) := by decide +kernel
theorem dX5_init_1196 : decode cX5_init 1196 = .ok (.iastore, 1) := by decide +kernel
theorem dX5_init_1197 : decode cX5_init 1197 = .ok (.dup, 1) := by decide +kernel
theorem dX5_init_1198 : decode cX5_init 1198 = .ok (.sipush 171, 3) := by decide +kernel
theorem dX5_init_1201 : decode cX5_init 1201 = .ok (.sipush 1003, 3) := by decide +kernel
theorem dX5_init_1204 : decode cX5_init 1204 = .ok (.iastore, 1) := by decide +kernel
theorem dX5_init_1205 : decode cX5_init 1205 = .ok (.dup, 1) := by decide +kernel
theorem dX5_init_1206 : decode cX5_init 1206 = .ok (.sipush 172, 3) := by decide +kernel
theorem dX5_init_1209 : decode cX5_init 1209 = .ok (.sipush 1210, 3) := by decide +kernel
theorem dX5_init_1212 : decode cX5_init 1212 = .ok (.iastore, 1) := by decide +kernel
theorem dX5_init_1213 : decode cX5_init 1213 = .ok (.dup, 1) := by decide +kernel
theorem dX5_init_1214 : decode cX5_init 1214 = .ok (.sipush 173, 3) := by decide +kernel
theorem dX5_init_1217 : decode cX5_init 1217 = .ok (.iconst 4, 1) := by decide +kernel
theorem dX5_init_1218 : decode cX5_init 1218 = .ok (.iastore, 1) := by decide +kernel
theorem dX5_init_1219 : decode cX5_init 1219 = .ok (.dup, 1) := by decide +kernel
theorem dX5_init_1220 : decode cX5_init 1220 = .ok (.sipush 174, 3) := by decide +kernel
theorem dX5_init_1223 : decode cX5_init 1223 = .ok (.sipush 1003, 3) := by decide +kernel
theorem dX5_init_1226 : decode cX5_init 1226 = .ok (.iastore, 1) := by decide +kernel
theorem dX5_init_1227 : decode cX5_init 1227 = .ok (.dup, 1) := by decide +kernel
theorem dX5_init_1228 : decode cX5_init 1228 = .ok (.sipush 175, 3) := by decide +kernel
theorem dX5_init_1231 : decode cX5_init 1231 = .ok (.sipush 3150, 3) := by decide +kernel
theorem dX5_init_1234 : decode cX5_init 1234 = .ok (.iastore, 1) := by decide +kernel
theorem dX5_init_1235 : decode cX5_init 1235 = .ok (.dup, 1) := by decide +kernel
theorem dX5_init_1236 : decode cX5_init 1236 = .ok (.sipush 176, 3) := by decide +kernel
theorem dX5_init_1239 : decode cX5_init 1239 = .ok (.sipush 1000, 3) := by decide +kernel
theorem dX5_init_1242 : decode cX5_init 1242 = .ok (.iastore, 1) := by decide +kernel
theorem dX5_init_1243 : decode cX5_init 1243 = .ok (.dup, 1) := by decide +kernel
theorem dX5_init_1244 : decode cX5_init 1244 = .ok (.sipush 177, 3) := by decide +kernel
theorem dX5_init_1247 : decode cX5_init 1247 = .ok (.sipush 1105, 3) := by decide +kernel
theorem dX5_init_1250 : decode cX5_init 1250 = .ok (.iastore, 1) := by decide +kernel
theorem dX5_init_1251 : decode cX5_init 1251 = .ok (.dup, 1) := by decide +kernel
theorem dX5_init_1252 : decode cX5_init 1252 = .ok (.sipush 178, 3) := by decide +kernel
theorem dX5_init_1255 : decode cX5_init 1255 = .ok (.sipush 1001, 3) := by decide +kernel
theorem dX5_init_1258 : decode cX5_init 1258 = .ok (.iastore, 1) := by decide +kernel
theorem dX5_init_1259 : decode cX5_init 1259 = .ok (.dup, 1) := by decide +kernel
theorem dX5_init_1260 : decode cX5_init 1260 = .ok (.sipush 179, 3) := by decide +kernel
theorem dX5_init_1263 : decode cX5_init 1263 = .ok (.sipush 1003, 3) := by decide +kernel
theorem dX5_init_1266 : decode cX5_init 1266 = .ok (.iastore, 1) := by decide +kernel
theorem dX5_init_1267 : decode cX5_init 1267 = .ok (.dup, 1) := by decide +kernel
theorem dX5_init_1268 : decode cX5_init 1268 = .ok (.sipush 180, 3) := by decide +kernel
theorem dX5_init_1271 : decode cX5_init 1271 = .ok (.sipush 3151, 3) := by decide +kernel
theorem dX5_init_1274 : decode cX5_init 1274 = .ok (.iastore, 1) := by decide +kernel
theorem dX5_init_1275 : decode cX5_init 1275 = .ok (.dup, 1) := by decide +kernel
theorem dX5_init_1276 : decode cX5_init 1276 = .ok (.sipush 181, 3) := by decide +kernel
theorem dX5_init_1279 : decode cX5_init 1279 = .ok (.sipush 1000, 3) := by decide +kernel
theorem dX5_init_1282 : decode cX5_init 1282 = .ok (.iastore, 1) := by decide +kernel
theorem dX5_init_1283 : decode cX5_init 1283 = .ok (.dup, 1) := by decide +kernel
theorem dX5_init_1284 : decode cX5_init 1284 = .ok (.sipush 182, 3) := by decide +kernel
theorem dX5_init_1287 : decode cX5_init 1287 = .ok (.sipush 1209, 3) := by decide +kernel
theorem dX5_init_1290 : decode cX5_init 1290 = .ok (.iastore, 1) := by decide +kernel
theorem dX5_init_1291 : decode cX5_init 1291 = .ok (.dup, 1) := by decide +kernel
theorem dX5_init_1292 : decode cX5_init 1292 = .ok (.sipush 183, 3) := by decide +kernel
theorem dX5_init_1295 : decode cX5_init 1295 = .ok (.iconst 0, 1) := by decide +kernel
theorem dX5_init_1296 : decode cX5_init 1296 = .ok (.iastore, 1) := by decide +kernel
theorem dX5_init_1297 : decode cX5_init 1297 = .ok (.dup, 1) := by decide +kernel
theorem dX5_init_1298 : decode cX5_init 1298 = .ok (.sipush 184, 3) := by decide +kernel
theorem dX5_init_1301 : decode cX5_init 1301 = .ok (.sipush 1102, 3) := by decide +kernel
theorem dX5_init_1304 : decode cX5_init 1304 = .ok (.iastore, 1) := by decide +kernel
theorem dX5_init_1305 : decode cX5_init 1305 = .ok (.dup, 1) := by decide +kernel
theorem dX5_init_1306 : decode cX5_init 1306 = .ok (.sipush 185, 3) := by decide +kernel
theorem dX5_init_1309 : decode cX5_init 1309 = .ok (.sipush 1006, 3) := by decide +kernel
theorem dX5_init_1312 : decode cX5_init 1312 = .ok (.iastore, 1) := by decide +kernel
theorem dX5_init_1313 : decode cX5_init 1313 = .ok (.dup, 1) := by decide +kernel
theorem dX5_init_1314 : decode cX5_init 1314 = .ok (.sipush 186, 3) := by decide +kernel
theorem dX5_init_1317 : decode cX5_init 1317 = .ok (.sipush 3152, 3) := by decide +kernel
theorem dX5_init_1320 : decode cX5_init 1320 = .ok (.iastore, 1) := by decide +kernel
theorem dX5_init_1321 : decode cX5_init 1321 = .ok (.dup, 1) := by decide +kernel
theorem dX5_init_1322 : decode cX5_init 1322 = .ok (.sipush 187, 3) := by decide +kernel
theorem dX5_init_1325 : decode cX5_init 1325 = .ok (.sipush 1000, 3) := by decide +kernel
theorem dX5_init_1328 : decode cX5_init 1328 = .ok (.iastore, 1) := by decide +kernel
theorem dX5_init_1329 : decode cX5_init 1329 = .ok (.dup, 1) := by decide +kernel
theorem dX5_init_1330 : decode cX5_init 1330 = .ok (.sipush 188, 3) := by decide +kernel
theorem dX5_init_1333 : decode cX5_init 1333 = .ok (.sipush 1340, 3) := by decide +kernel
theorem dX5_init_1336 : decode cX5_init 1336 = .ok (.iastore, 1) := by decide +kernel
theorem dX5_init_1337 : decode cX5_init 1337 = .ok (.dup, 1) := by decide +kernel
theorem dX5_init_1338 : decode cX5_init 1338 = .ok (.sipush 189, 3) := by decide +kernel
theorem dX5_init_1341 : decode cX5_init 1341 = .ok (.iconst 1, 1) := by decide +kernel
theorem dX5_init_1342 : decode cX5_init 1342 = .ok (.iastore, 1) := by decide +kernel
theorem dX5_init_1343 : decode cX5_init 1343 = .ok (.dup, 1) := by decide +kernel
end
section
theorem dX5_init_1344 : decode cX5_init 1344 = .ok (.sipush 190, 3) := by decide +kernel
theorem dX5_init_1347 : decode cX5_init 1347 = .ok (.sipush 1003, 3) := by decide +kernel
theorem dX5_init_1350 : decode cX5_init 1350 = .ok (.iastore, 1) := by decide +kernel
theorem dX5_init_1351 : decode cX5_init 1351 = .ok (.dup, 1) := by decide +kernel
theorem dX5_init_1352 : decode cX5_init 1352 = .ok (.sipush 191, 3) := by decide +kernel
theorem dX5_init_1355 : decode cX5_init 1355 = .ok (.sipush 3160, 3) := by decide +kernel
theorem dX5_init_1358 : decode cX5_init 1358 = .ok (.iastore, 1) := by decide +kernel
theorem dX5_init_1359 : decode cX5_init 1359 = .ok (.dup, 1) := by decide +kernel
theorem dX5_init_1360 : decode cX5_init 1360 = .ok (.sipush 192, 3) := by decide +kernel
theorem dX5_init_1363 : decode cX5_init 1363 = .ok (.sipush 1000, 3) := by decide +kernel
theorem dX5_init_1366 : decode cX5_init 1366 = .ok (.iastore, 1) := by decide +kernel
theorem dX5_init_1367 : decode cX5_init 1367 = .ok (.dup, 1) := by decide +kernel
theorem dX5_init_1368 : decode cX5_init 1368 = .ok (.sipush 193, 3) := by decide +kernel
theorem dX5_init_1371 : decode cX5_init 1371 = .ok (.sipush 3161, 3) := by decide +kernel
theorem dX5_init_1374 : decode cX5_init 1374 = .ok (.iastore, 1) := by decide +kernel
theorem dX5_init_1375 : decode cX5_init 1375 = .ok (.dup, 1) := by decide +kernel
theorem dX5_init_1376 : decode cX5_init 1376 = .ok (.sipush 194, 3) := by decide +kernel
theorem dX5_init_1379 : decode cX5_init 1379 = .ok (.sipush 1000, 3) := by decide +kernel
theorem dX5_init_1382 : decode cX5_init 1382 = .ok (.iastore, 1) := by decide +kernel
theorem dX5_init_1383 : decode cX5_init 1383 = .ok (.dup, 1) := by decide +kernel
theorem dX5_init_1384 : decode cX5_init 1384 = .ok (.sipush 195, 3) := by decide +kernel
theorem dX5_init_1387 : decode cX5_init 1387 = .ok (.sipush 1368, 3) := by decide +kernel
theorem dX5_init_1390 : decode cX5_init 1390 = .ok (.iastore, 1) := by decide +kernel
theorem dX5_init_1391 : decode cX5_init 1391 = .ok (.dup, 1) := by decide +kernel
theorem dX5_init_1392 : decode cX5_init 1392 = .ok (.sipush 196, 3) := by decide +kernel
theorem dX5_init_1395 : decode cX5_init 1395 = .ok (.sipush 255, 3) := by decide +kernel
theorem dX5_init_1398 : decode cX5_init 1398 = .ok (.iastore, 1) := by decide +kernel
theorem dX5_init_1399 : decode cX5_init 1399 = .ok (.dup, 1) := by decide +kernel
theorem dX5_init_1400 : decode cX5_init 1400 = .ok (.sipush 197, 3) := by decide +kernel
theorem dX5_init_1403 : decode cX5_init 1403 = .ok (.sipush 1007, 3) := by decide +kernel
theorem dX5_init_1406 : decode cX5_init 1406 = .ok (.iastore, 1) := by decide +kernel
theorem dX5_init_1407 : decode cX5_init 1407 = .ok (.dup, 1) := by decide +kernel
theorem dX5_init_1408 : decode cX5_init 1408 = .ok (.sipush 198, 3) := by decide +kernel
theorem dX5_init_1411 : decode cX5_init 1411 = .ok (.sipush 3162, 3) := by decide +kernel
theorem dX5_init_1414 : decode cX5_init 1414 = .ok (.iastore, 1) := by decide +kernel
theorem dX5_init_1415 : decode cX5_init 1415 = .ok (.dup, 1) := by decide +kernel
theorem dX5_init_1416 : decode cX5_init 1416 = .ok (.sipush 199, 3) := by decide +kernel
theorem dX5_init_1419 : decode cX5_init 1419 = .ok (.sipush 1000, 3) := by decide +kernel
theorem dX5_init_1422 : decode cX5_init 1422 = .ok (.iastore, 1) := by decide +kernel
theorem dX5_init_1423 : decode cX5_init 1423 = .ok (.dup, 1) := by decide +kernel
theorem dX5_init_1424 : decode cX5_init 1424 = .ok (.sipush 200, 3) := by decide +kernel
theorem dX5_init_1427 : decode cX5_init 1427 = .ok (.bipush 99, 2) := by decide +kernel
theorem dX5_init_1429 : decode cX5_init 1429 = .ok (.iastore, 1) := by decide +kernel
theorem dX5_init_1430 : decode cX5_init 1430 = .ok (.dup, 1) := by decide +kernel
theorem dX5_init_1431 : decode cX5_init 1431 = .ok (.sipush 201, 3) := by decide +kernel
theorem dX5_init_1434 : decode cX5_init 1434 = .ok (.sipush 1003, 3) := by decide +kernel
theorem dX5_init_1437 : decode cX5_init 1437 = .ok (.iastore, 1) := by decide +kernel
theorem dX5_init_1438 : decode cX5_init 1438 = .ok (.dup, 1) := by decide +kernel
theorem dX5_init_1439 : decode cX5_init 1439 = .ok (.sipush 202, 3) := by decide +kernel
theorem dX5_init_1442 : decode cX5_init 1442 = .ok (.sipush 3163, 3) := by decide +kernel
theorem dX5_init_1445 : decode cX5_init 1445 = .ok (.iastore, 1) := by decide +kernel
theorem dX5_init_1446 : decode cX5_init 1446 = .ok (.dup, 1) := by decide +kernel
theorem dX5_init_1447 : decode cX5_init 1447 = .ok (.sipush 203, 3) := by decide +kernel
theorem dX5_init_1450 : decode cX5_init 1450 = .ok (.sipush 1000, 3) := by decide +kernel
theorem dX5_init_1453 : decode cX5_init 1453 = .ok (.iastore, 1) := by decide +kernel
theorem dX5_init_1454 : decode cX5_init 1454 = .ok (.dup, 1) := by decide +kernel
theorem dX5_init_1455 : decode cX5_init 1455 = .ok (.sipush 204, 3) := by decide +kernel
theorem dX5_init_1458 : decode cX5_init 1458 = .ok (.sipush 2162, 3) := by decide +kernel
theorem dX5_init_1461 : decode cX5_init 1461 = .ok (.iastore, 1) := by decide +kernel
theorem dX5_init_1462 : decode cX5_init 1462 = .ok (.dup, 1) := by decide +kernel
theorem dX5_init_1463 : decode cX5_init 1463 = .ok (.sipush 205, 3) := by decide +kernel
theorem dX5_init_1466 : decode cX5_init 1466 = .ok (.iconst 1, 1) := by decide +kernel
theorem dX5_init_1467 : decode cX5_init 1467 = .ok (.iastore, 1) := by decide +kernel
theorem dX5_init_1468 : decode cX5_init 1468 = .ok (.dup, 1) := by decide +kernel
theorem dX5_init_1469 : decode cX5_init 1469 = .ok (.sipush 206, 3) := by decide +kernel
theorem dX5_init_1472 : decode cX5_init 1472 = .ok (.sipush 1209, 3) := by decide +kernel
theorem dX5_init_1475 : decode cX5_init 1475 = .ok (.iastore, 1) := by decide +kernel
theorem dX5_init_1476 : decode cX5_init 1476 = .ok (.dup, 1) := by decide +kernel
theorem dX5_init_1477 : decode cX5_init 1477 = .ok (.sipush 207, 3) := by decide +kernel
theorem dX5_init_1480 : decode cX5_init 1480 = .ok (.sipush 1003, 3) := by decide +kernel
theorem dX5_init_1483 : decode cX5_init 1483 = .ok (.iastore, 1) := by decide +kernel
theorem dX5_init_1484 : decode cX5_init 1484 = .ok (.dup, 1) := by decide +kernel
theorem dX5_init_1485 : decode cX5_init 1485 = .ok (.sipush 208, 3) := by decide +kernel
theorem dX5_init_1488 : decode cX5_init 1488 = .ok (.sipush 3180, 3) := by decide +kernel
theorem dX5_init_1491 : decode cX5_init 1491 = .ok (.iastore, 1) := by decide +kernel
theorem dX5_init_1492 : decode cX5_init 1492 = .ok (.dup, 1) := by decide +kernel
theorem dX5_init_1493 : decode cX5_init 1493 = .ok (.sipush 209, 3) := by decide +kernel
theorem dX5_init_1496 : decode cX5_init 1496 = .ok (.sipush 1000, 3) := by decide +kernel
theorem dX5_init_1499 : decode cX5_init 1499 = .ok (.iastore, 1) := by decide +kernel
theorem dX5_init_1500 : decode cX5_init 1500 = .ok (.dup, 1) := by decide +kernel
theorem dX5_init_1501 : decode cX5_init 1501 = .ok (.sipush 210, 3) := by decide +kernel
theorem dX5_init_1504 : decode cX5_init 1504 = .ok (.sipush 1209, 3) := by decide +kernel
theorem dX5_init_1507 : decode cX5_init 1507 = .ok (.iastore, 1) := by decide +kernel
theorem dX5_init_1508 : decode cX5_init 1508 = .ok (.dup, 1) := by decide +kernel
theorem dX5_init_1509 : decode cX5_init 1509 = .ok (.sipush 211, 3) := by decide +kernel
theorem dX5_init_1512 : decode cX5_init 1512 = .ok (.iconst 1, 1) := by decide +kernel
theorem dX5_init_1513 : decode cX5_init 1513 = .ok (.iastore, 1) := by decide +kernel
theorem dX5_init_1514 : decode cX5_init 1514 = .ok (.dup, 1) := by decide +kernel
theorem dX5_init_1515 : decode cX5_init 1515 = .ok (.sipush 212, 3) := by decide +kernel
theorem dX5_init_1518 : decode cX5_init 1518 = .ok (.sipush 1004, 3) := by decide +kernel
theorem dX5_init_1521 : decode cX5_init 1521 = .ok (.iastore, 1) := by decide +kernel
theorem dX5_init_1522 : decode cX5_init 1522 = .ok (.dup, 1) := by decide +kernel
theorem dX5_init_1523 : decode cX5_init 1523 = .ok (.sipush 213, 3) := by decide +kernel
theorem dX5_init_1526 : decode cX5_init 1526 = .ok (.sipush 3181, 3) := by decide +kernel
theorem dX5_init_1529 : decode cX5_init 1529 = .ok (.iastore, 1) := by decide +kernel
theorem dX5_init_1530 : decode cX5_init 1530 = .ok (.dup, 1) := by decide +kernel
theorem dX5_init_1531 : decode cX5_init 1531 = .ok (.sipush 214, 3) := by decide +kernel
theorem dX5_init_1534 : decode cX5_init 1534 = .ok (.sipush 1000, 3) := by decide +kernel
theorem dX5_init_1537 : decode cX5_init 1537 = .ok (.iastore, 1) := by decide +kernel
theorem dX5_init_1538 : decode cX5_init 1538 = .ok (.dup, 1) := by decide +kernel
theorem dX5_init_1539 : decode cX5_init 1539 = .ok (.sipush 215, 3) := by decide +kernel
theorem dX5_init_1542 : decode cX5_init 1542 = .ok (.sipush 1202, 3) := by decide +kernel
theorem dX5_init_1545 : decode cX5_init 1545 = .ok (.iastore, 1) := by decide +kernel
theorem dX5_init_1546 : decode cX5_init 1546 = .ok (.dup, 1) := by decide +kernel
theorem dX5_init_1547 : decode cX5_init 1547 = .ok (.sipush 216, 3) := by decide +kernel
theorem dX5_init_1550 : decode cX5_init 1550 = .ok (.iconst 2, 1) := by decide +kernel
theorem dX5_init_1551 : decode cX5_init 1551 = .ok (.iastore, 1) := by decide +kernel
theorem dX5_init_1552 : decode cX5_init 1552 = .ok (.dup, 1) := by decide +kernel
theorem dX5_init_1553 : decode cX5_init 1553 = .ok (.sipush 217, 3) := by decide +kernel
theorem dX5_init_1556 : decode cX5_init 1556 = .ok (.sipush 1101, 3) := by decide +kernel
theorem dX5_init_1559 : decode cX5_init 1559 = .ok (.iastore, 1) := by decide +kernel
theorem dX5_init_1560 : decode cX5_init 1560 = .ok (.dup, 1) := by decide +kernel
theorem dX5_init_1561 : decode cX5_init 1561 = .ok (.sipush 218, 3) := by decide +kernel
theorem dX5_init_1564 : decode cX5_init 1564 = .ok (.sipush 1003, 3) := by decide +kernel
theorem dX5_init_1567 : decode cX5_init 1567 = .ok (.iastore, 1) := by decide +kernel
theorem dX5_init_1568 : decode cX5_init 1568 = .ok (.dup, 1) := by decide +kernel
theorem dX5_init_1569 : decode cX5_init 1569 = .ok (.sipush 219, 3) := by decide +kernel
theorem dX5_init_1572 : decode cX5_init 1572 = .ok (.sipush 3190, 3) := by decide +kernel
theorem dX5_init_1575 : decode cX5_init 1575 = .ok (.iastore, 1) := by decide +kernel
theorem dX5_init_1576 : decode cX5_init 1576 = .ok (.dup, 1) := by decide +kernel
theorem dX5_init_1577 : decode cX5_init 1577 = .ok (.sipush 220, 3) := by decide +kernel
theorem dX5_init_1580 : decode cX5_init 1580 = .ok (.sipush 1000, 3) := by decide +kernel
theorem dX5_init_1583 : decode cX5_init 1583 = .ok (.iastore, 1) := by decide +kernel
theorem dX5_init_1584 : decode cX5_init 1584 = .ok (.dup, 1) := by decide +kernel
theorem dX5_init_1585 : decode cX5_init 1585 = .ok (.sipush 221, 3) := by decide +kernel
theorem dX5_init_1588 : decode cX5_init 1588 = .ok (.sipush 1110, 3) := by decide +kernel
theorem dX5_init_1591 : decode cX5_init 1591 = .ok (.iastore, 1) := by decide +kernel
theorem dX5_init_1592 : decode cX5_init 1592 = .ok (.dup, 1) := by decide +kernel
theorem dX5_init_1593 : decode cX5_init 1593 = .ok (.sipush 222, 3) := by decide +kernel
theorem dX5_init_1596 : decode cX5_init 1596 = .ok (.iconst 2, 1) := by decide +kernel
theorem dX5_init_1597 : decode cX5_init 1597 = .ok (.iastore, 1) := by decide +kernel
theorem dX5_init_1598 : decode cX5_init 1598 = .ok (.dup, 1) := by decide +kernel
theorem dX5_init_1599 : decode cX5_init 1599 = .ok (.sipush 223, 3) := by decide +kernel
theorem dX5_init_1602 : decode cX5_init 1602 = .ok (.sipush 1005, 3) := by decide +kernel
theorem dX5_init_1605 : decode cX5_init 1605 = .ok (.iastore, 1) := by decide +kernel
theorem dX5_init_1606 : decode cX5_init 1606 = .ok (.dup, 1) := by decide +kernel
theorem dX5_init_1607 : decode cX5_init 1607 = .ok (.sipush 224, 3) := by decide +kernel
theorem dX5_init_1610 : decode cX5_init 1610 = .ok (.sipush 3200, 3) := by decide +kernel
theorem dX5_init_1613 : decode cX5_init 1613 = .ok (.iastore, 1) := by decide +kernel
theorem dX5_init_1614 : decode cX5_init 1614 = .ok (.dup, 1) := by decide +kernel
theorem dX5_init_1615 : decode cX5_init 1615 = .ok (.sipush 225, 3) := by decide +kernel
theorem dX5_init_1618 : decode cX5_init 1618 = .ok (.sipush 1002, 3) := by decide +kernel
theorem dX5_init_1621 : decode cX5_init 1621 = .ok (.iastore, 1) := by decide +kernel
theorem dX5_init_1622 : decode cX5_init 1622 = .ok (.dup, 1) := by decide +kernel
theorem dX5_init_1623 : decode cX5_init 1623 = .ok (.sipush 226, 3) := by decide +kernel
theorem dX5_init_1626 : decode cX5_init 1626 = .ok (.sipush 1000, 3) := by decide +kernel
theorem dX5_init_1629 : decode cX5_init 1629 = .ok (.iastore, 1) := by decide +kernel
theorem dX5_init_1630 : decode cX5_init 1630 = .ok (.dup, 1) := by decide +kernel
theorem dX5_init_1631 : decode cX5_init 1631 = .ok (.sipush 227, 3) := by decide +kernel
theorem dX5_init_1634 : decode cX5_init 1634 = .ok (.sipush 1003, 3) := by decide +kernel
theorem dX5_init_1637 : decode cX5_init 1637 = .ok (.iastore, 1) := by decide +kernel
theorem dX5_init_1638 : decode cX5_init 1638 = .ok (.dup, 1) := by decide +kernel
theorem dX5_init_1639 : decode cX5_init 1639 = .ok (.sipush 228, 3) := by decide +kernel
theorem dX5_init_1642 : decode cX5_init 1642 = .ok (.sipush 3201, 3) := by decide +kernel
theorem dX5_init_1645 : decode cX5_init 1645 = .ok (.iastore, 1) := by decide +kernel
theorem dX5_init_1646 : decode cX5_init 1646 = .ok (.dup, 1) := by decide +kernel
theorem dX5_init_1647 : decode cX5_init 1647 = .ok (.sipush 229, 3) := by decide +kernel
theorem dX5_init_1650 : decode cX5_init 1650 = .ok (.sipush 1000, 3) := by decide +kernel
theorem dX5_init_1653 : decode cX5_init 1653 = .ok (.iastore, 1) := by decide +kernel
theorem dX5_init_1654 : decode cX5_init 1654 = .ok (.dup, 1) := by decide +kernel
theorem dX5_init_1655 : decode cX5_init 1655 = .ok (.sipush 230, 3) := by decide +kernel
theorem dX5_init_1658 : decode cX5_init 1658 = .ok (.sipush 1367, 3) := by decide +kernel
theorem dX5_init_1661 : decode cX5_init 1661 = .ok (.iastore, 1) := by decide +kernel
theorem dX5_init_1662 : decode cX5_init 1662 = .ok (.dup, 1) := by decide +kernel
theorem dX5_init_1663 : decode cX5_init 1663 = .ok (.sipush 231, 3) := by decide +kernel
theorem dX5_init_1666 : decode cX5_init 1666 = .ok (.sipush 1000, 3) := by decide +kernel
theorem dX5_init_1669 : decode cX5_init 1669 = .ok (.iastore, 1) := by decide +kernel
theorem dX5_init_1670 : decode cX5_init 1670 = .ok (.dup, 1) := by decide +kernel
theorem dX5_init_1671 : decode cX5_init 1671 = .ok (.sipush 232, 3) := by decide +kernel
theorem dX5_init_1674 : decode cX5_init 1674 = .ok (.sipush 2200, 3) := by decide +kernel
theorem dX5_init_1677 : decode cX5_init 1677 = .ok (.iastore, 1) := by decide +kernel
theorem dX5_init_1678 : decode cX5_init 1678 = .ok (.dup, 1) := by decide +kernel
theorem dX5_init_1679 : decode cX5_init 1679 = .ok (.sipush 233, 3) := by decide +kernel
theorem dX5_init_1682 : decode cX5_init 1682 = .ok (.sipush 1003, 3) := by decide +kernel
theorem dX5_init_1685 : decode cX5_init 1685 = .ok (.iastore, 1) := by decide +kernel
theorem dX5_init_1686 : decode cX5_init 1686 = .ok (.dup, 1) := by decide +kernel
theorem dX5_init_1687 : decode cX5_init 1687 = .ok (.sipush 234, 3) := by decide +kernel
theorem dX5_init_1690 : decode cX5_init 1690 = .ok (.sipush 3202, 3) := by decide +kernel
theorem dX5_init_1693 : decode cX5_init 1693 = .ok (.iastore, 1) := by decide +kernel
theorem dX5_init_1694 : decode cX5_init 1694 = .ok (.dup, 1) := by decide +kernel
theorem dX5_init_1695 : decode cX5_init 1695 = .ok (.sipush 235, 3) := by decide +kernel
theorem dX5_init_1698 : decode cX5_init 1698 = .ok (.sipush 1000, 3) := by decide +kernel
theorem dX5_init_1701 : decode cX5_init 1701 = .ok (.iastore, 1) := by decide +kernel
theorem dX5_init_1702 : decode cX5_init 1702 = .ok (.dup, 1) := by decide +kernel
theorem dX5_init_1703 : decode cX5_init 1703 = .ok (.sipush 236, 3) := by decide +kernel
theorem dX5_init_1706 : decode cX5_init 1706 = .ok (.sipush 1338, 3) := by decide +kernel
theorem dX5_init_1709 : decode cX5_init 1709 = .ok (.iastore, 1) := by decide +kernel
theorem dX5_init_1710 : decode cX5_init 1710 = .ok (.dup, 1) := by decide +kernel
theorem dX5_init_1711 : decode cX5_init 1711 = .ok (.sipush 237, 3) := by decide +kernel
theorem dX5_init_1714 : decode cX5_init 1714 = .ok (.sipush 1000, 3) := by decide +kernel
theorem dX5_init_1717 : decode cX5_init 1717 = .ok (.iastore, 1) := by decide +kernel
theorem dX5_init_1718 : decode cX5_init 1718 = .ok (.dup, 1) := by decide +kernel
theorem dX5_init_1719 : decode cX5_init 1719 = .ok (.sipush 238, 3) := by decide +kernel
theorem dX5_init_1722 : decode cX5_init 1722 = .ok (.sipush 1202, 3) := by decide +kernel
theorem dX5_init_1725 : decode cX5_init 1725 = .ok (.iastore, 1) := by decide +kernel
theorem dX5_init_1726 : decode cX5_init 1726 = .ok (.dup, 1) := by decide +kernel
theorem dX5_init_1727 : decode cX5_init 1727 = .ok (.sipush 239, 3) := by decide +kernel
theorem dX5_init_1730 : decode cX5_init 1730 = .ok (.sipush 1003, 3) := by decide +kernel
theorem dX5_init_1733 : decode cX5_init 1733 = .ok (.iastore, 1) := by decide +kernel
theorem dX5_init_1734 : decode cX5_init 1734 = .ok (.dup, 1) := by decide +kernel
theorem dX5_init_1735 : decode cX5_init 1735 = .ok (.sipush 240, 3) := by decide +kernel
theorem dX5_init_1738 : decode cX5_init 1738 = .ok (.sipush 3204, 3) := by decide +kernel
theorem dX5_init_1741 : decode cX5_init 1741 = .ok (.iastore, 1) := by decide +kernel
theorem dX5_init_1742 : decode cX5_init 1742 = .ok (.dup, 1) := by decide +kernel
theorem dX5_init_1743 : decode cX5_init 1743 = .ok (.sipush 241, 3) := by decide +kernel
theorem dX5_init_1746 : decode cX5_init 1746 = .ok (.sipush 1000, 3) := by decide +kernel
theorem dX5_init_1749 : decode cX5_init 1749 = .ok (.iastore, 1) := by decide +kernel
theorem dX5_init_1750 : decode cX5_init 1750 = .ok (.dup, 1) := by decide +kernel
theorem dX5_init_1751 : decode cX5_init 1751 = .ok (.sipush 242, 3) := by decide +kernel
theorem dX5_init_1754 : decode cX5_init 1754 = .ok (.sipush 1205, 3) := by decide +kernel
theorem dX5_init_1757 : decode cX5_init 1757 = .ok (.iastore, 1) := by decide +kernel
theorem dX5_init_1758 : decode cX5_init 1758 = .ok (.dup, 1) := by decide +kernel
theorem dX5_init_1759 : decode cX5_init 1759 = .ok (.sipush 243, 3) := by decide +kernel
theorem dX5_init_1762 : decode cX5_init 1762 = .ok (.iconst 1, 1) := by decide +kernel
theorem dX5_init_1763 : decode cX5_init 1763 = .ok (.iastore, 1) := by decide +kernel
theorem dX5_init_1764 : decode cX5_init 1764 = .ok (.dup, 1) := by decide +kernel
theorem dX5_init_1765 : decode cX5_init 1765 = .ok (.sipush 244, 3) := by decide +kernel
theorem dX5_init_1768 : decode cX5_init 1768 = .ok (.sipush 1003, 3) := by decide +kernel
theorem dX5_init_1771 : decode cX5_init 1771 = .ok (.iastore, 1) := by decide +kernel
theorem dX5_init_1772 : decode cX5_init 1772 = .ok (.dup, 1) := by decide +kernel
theorem dX5_init_1773 : decode cX5_init 1773 = .ok (.sipush 245, 3) := by decide +kernel
theorem dX5_init_1776 : decode cX5_init 1776 = .ok (.sipush 3000, 3) := by decide +kernel
theorem dX5_init_1779 : decode cX5_init 1779 = .ok (.iastore, 1) := by decide +kernel
theorem dX5_init_1780 : decode cX5_init 1780 = .ok (.putfield 9, 3) := by decide +kernel
theorem dX5_init_1783 : decode cX5_init 1783 = .ok (.aload_n 0, 1) := by decide +kernel
theorem dX5_init_1784 : decode cX5_init 1784 = .ok (.sipush 210, 3) := by decide +kernel
theorem dX5_init_1787 : decode cX5_init 1787 = .ok (.newarray .int, 2) := by decide +kernel
theorem dX5_init_1789 : decode cX5_init 1789 = .ok (.putfield 13, 3) := by decide +kernel
theorem dX5_init_1792 : decode cX5_init 1792 = .ok (.aload_n 0, 1) := by decide +kernel
theorem dX5_init_1793 : decode cX5_init 1793 = .ok (.bipush 21, 2) := by decide +kernel
theorem dX5_init_1795 : decode cX5_init 1795 = .ok (.newarray .int, 2) := by decide +kernel
theorem dX5_init_1797 : decode cX5_init 1797 = .ok (.putfield 16, 3) := by decide +kernel
theorem dX5_init_1800 : decode cX5_init 1800 = .ok (.aload_n 0, 1) := by decide +kernel
theorem dX5_init_1801 : decode cX5_init 1801 = .ok (.bipush 21, 2) := by decide +kernel
theorem dX5_init_1803 : decode cX5_init 1803 = .ok (.newarray .int, 2) := by decide +kernel
theorem dX5_init_1805 : decode cX5_init 1805 = .ok (.putfield 19, 3) := by decide +kernel
theorem dX5_init_1808 : decode cX5_init 1808 = .ok (.aload_n 0, 1) := by decide +kernel
theorem dX5_init_1809 : decode cX5_init 1809 = .ok (.sipush 252, 3) := by decide +kernel
theorem dX5_init_1812 : decode cX5_init 1812 = .ok (.newarray .int, 2) := by decide +kernel
theorem dX5_init_1814 : decode cX5_init 1814 = .ok (.putfield 22, 3) := by decide +kernel
theorem dX5_init_1817 : decode cX5_init 1817 = .ok (.aload_n 0, 1) := by decide +kernel
theorem dX5_init_1818 : decode cX5_init 1818 = .ok (.sipush 252, 3) := by decide +kernel
theorem dX5_init_1821 : decode cX5_init 1821 = .ok (.newarray .int, 2) := by decide +kernel
theorem dX5_init_1823 : decode cX5_init 1823 = .ok (.putfield 25, 3) := by decide +kernel
theorem dX5_init_1826 : decode cX5_init 1826 = .ok (.aload_n 0, 1) := by decide +kernel
theorem dX5_init_1827 : decode cX5_init 1827 = .ok (.bipush 7, 2) := by decide +kernel
theorem dX5_init_1829 : decode cX5_init 1829 = .ok (.newarray .int, 2) := by decide +kernel
theorem dX5_init_1831 : decode cX5_init 1831 = .ok (.putfield 28, 3) := by decide +kernel
theorem dX5_init_1834 : decode cX5_init 1834 = .ok (.aload_n 0, 1) := by decide +kernel
theorem dX5_init_1835 : decode cX5_init 1835 = .ok (.bipush 11, 2) := by decide +kernel
theorem dX5_init_1837 : decode cX5_init 1837 = .ok (.newarray .int, 2) := by decide +kernel
theorem dX5_init_1839 : decode cX5_init 1839 = .ok (.putfield 31, 3) := by decide +kernel
theorem dX5_init_1842 : decode cX5_init 1842 = .ok (.aload_n 0, 1) := by decide +kernel
theorem dX5_init_1843 : decode cX5_init 1843 = .ok (.sipush 300, 3) := by decide +kernel
theorem dX5_init_1846 : decode cX5_init 1846 = .ok (.newarray .int, 2) := by decide +kernel
theorem dX5_init_1848 : decode cX5_init 1848 = .ok (.putfield 34, 3) := by decide +kernel
theorem dX5_init_1851 : decode cX5_init 1851 = .ok (.aload_n 0, 1) := by decide +kernel
theorem dX5_init_1852 : decode cX5_init 1852 = .ok (.sipush 300, 3) := by decide +kernel
theorem dX5_init_1855 : decode cX5_init 1855 = .ok (.newarray .int, 2) := by decide +kernel
theorem dX5_init_1857 : decode cX5_init 1857 = .ok (.putfield 37, 3) := by decide +kernel
theorem dX5_init_1860 : decode cX5_init 1860 = .ok (.aload_n 0, 1) := by decide +kernel
theorem dX5_init_1861 : decode cX5_init 1861 = .ok (.sipush 300, 3) := by decide +kernel
theorem dX5_init_1864 : decode cX5_init 1864 = .ok (.newarray .int, 2) := by decide +kernel
theorem dX5_init_1866 : decode cX5_init 1866 = .ok (.putfield 40, 3) := by decide +kernel
theorem dX5_init_1869 : decode cX5_init 1869 = .ok (.aload_n 0, 1) := by decide +kernel
theorem dX5_init_1870 : decode cX5_init 1870 = .ok (.sipush 300, 3) := by decide +kernel
theorem dX5_init_1873 : decode cX5_init 1873 = .ok (.newarray .int, 2) := by decide +kernel
theorem dX5_init_1875 : decode cX5_init 1875 = .ok (.putfield 43, 3) := by decide +kernel
theorem dX5_init_1878 : decode cX5_init 1878 = .ok (.aload_n 0, 1) := by decide +kernel
theorem dX5_init_1879 : decode cX5_init 1879 = .ok (.sipush 400, 3) := by decide +kernel
theorem dX5_init_1882 : decode cX5_init 1882 = .ok (.newarray .int, 2) := by decide +kernel
theorem dX5_init_1884 : decode cX5_init 1884 = .ok (.putfield 46, 3) := by decide +kernel
theorem dX5_init_1887 : decode cX5_init 1887 = .ok (.aload_n 0, 1) := by decide +kernel
theorem dX5_init_1888 : decode cX5_init 1888 = .ok (.sipush 400, 3) := by decide +kernel
theorem dX5_init_1891 : decode cX5_init 1891 = .ok (.newarray .int, 2) := by decide +kernel
theorem dX5_init_1893 : decode cX5_init 1893 = .ok (.putfield 49, 3) := by decide +kernel
theorem dX5_init_1896 : decode cX5_init 1896 = .ok (.aload_n 0, 1) := by decide +kernel
theorem dX5_init_1897 : decode cX5_init 1897 = .ok (.sipush 300, 3) := by decide +kernel
theorem dX5_init_1900 : decode cX5_init 1900 = .ok (.newarray .int, 2) := by decide +kernel
theorem dX5_init_1902 : decode cX5_init 1902 = .ok (.putfield 52, 3) := by decide +kernel
theorem dX5_init_1905 : decode cX5_init 1905 = .ok (.aload_n 0, 1) := by decide +kernel
theorem dX5_init_1906 : decode cX5_init 1906 = .ok (.sipush 300, 3) := by decide +kernel
theorem dX5_init_1909 : decode cX5_init 1909 = .ok (.newarray .int, 2) := by decide +kernel
theorem dX5_init_1911 : decode cX5_init 1911 = .ok (.putfield 55, 3) := by decide +kernel
theorem dX5_init_1914 : decode cX5_init 1914 = .ok (.aload_n 0, 1) := by decide +kernel
theorem dX5_init_1915 : decode cX5_init 1915 = .ok (.sipush 300, 3) := by decide +kernel
theorem dX5_init_1918 : decode cX5_init 1918 = .ok (.newarray .boolean, 2) := by decide +kernel
theorem dX5_init_1920 : decode cX5_init 1920 = .ok (.putfield 58, 3) := by decide +kernel
theorem dX5_init_1923 : decode cX5_init 1923 = .ok (.aload_n 0, 1) := by decide +kernel
theorem dX5_init_1924 : decode cX5_init 1924 = .ok (.bipush 64, 2) := by decide +kernel
theorem dX5_init_1926 : decode cX5_init 1926 = .ok (.newarray .int, 2) := by decide +kernel
theorem dX5_init_1928 : decode cX5_init 1928 = .ok (.putfield 62, 3) := by decide +kernel
theorem dX5_init_1931 : decode cX5_init 1931 = .ok (.aload_n 0, 1) := by decide +kernel
theorem dX5_init_1932 : decode cX5_init 1932 = .ok (.bipush 100, 2) := by decide +kernel
theorem dX5_init_1934 : decode cX5_init 1934 = .ok (.newarray .int, 2) := by decide +kernel
theorem dX5_init_1936 : decode cX5_init 1936 = .ok (.putfield 65, 3) := by decide +kernel
theorem dX5_init_1939 : decode cX5_init 1939 = .ok (.aload_n 0, 1) := by decide +kernel
theorem dX5_init_1940 : decode cX5_init 1940 = .ok (.bipush 100, 2) := by decide +kernel
theorem dX5_init_1942 : decode cX5_init 1942 = .ok (.newarray .int, 2) := by decide +kernel
theorem dX5_init_1944 : decode cX5_init 1944 = .ok (.putfield 68, 3) := by decide +kernel
theorem dX5_init_1947 : decode cX5_init 1947 = .ok (.aload_n 0, 1) := by decide +kernel
theorem dX5_init_1948 : decode cX5_init 1948 = .ok (.bipush 100, 2) := by decide +kernel
theorem dX5_init_1950 : decode cX5_init 1950 = .ok (.newarray .int, 2) := by decide +kernel
theorem dX5_init_1952 : decode cX5_init 1952 = .ok (.putfield 71, 3) := by decide +kernel
theorem dX5_init_1955 : decode cX5_init 1955 = .ok (.aload_n 0, 1) := by decide +kernel
theorem dX5_init_1956 : decode cX5_init 1956 = .ok (.sipush 300, 3) := by decide +kernel
theorem dX5_init_1959 : decode cX5_init 1959 = .ok (.newarray .int, 2) := by decide +kernel
theorem dX5_init_1961 : decode cX5_init 1961 = .ok (.putfield 74, 3) := by decide +kernel
theorem dX5_init_1964 : decode cX5_init 1964 = .ok (.iconst 0, 1) := by decide +kernel
theorem dX5_init_1965 : decode cX5_init 1965 = .ok (.istore_n 1, 1) := by decide +kernel
theorem dX5_init_1966 : decode cX5_init 1966 = .ok (.iload_n 1, 1) := by decide +kernel
theorem dX5_init_1967 : decode cX5_init 1967 = .ok (.sipush 252, 3) := by decide +kernel
theorem dX5_init_1970 : decode cX5_init 1970 = .ok (.if_icmp .ge 16, 3) := by decide +kernel
theorem dX5_init_1973 : decode cX5_init 1973 = .ok (.aload_n 0, 1) := by decide +kernel
theorem dX5_init_1974 : decode cX5_init 1974 = .ok (.getfield 22, 3) := by decide +kernel
theorem dX5_init_1977 : decode cX5_init 1977 = .ok (.iload_n 1, 1) := by decide +kernel
theorem dX5_init_1978 : decode cX5_init 1978 = .ok (.iconst (-1), 1) := by decide +kernel
theorem dX5_init_1979 : decode cX5_init 1979 = .ok (.iastore, 1) := by decide +kernel
theorem dX5_init_1980 : decode cX5_init 1980 = .ok (.iinc 1 1, 3) := by decide +kernel
theorem dX5_init_1983 : decode cX5_init 1983 = .ok (.goto (-17), 3) := by decide +kernel
theorem dX5_init_1986 : decode cX5_init 1986 = .ok (.iconst 0, 1) := by decide +kernel
theorem dX5_init_1987 : decode cX5_init 1987 = .ok (.istore_n 1, 1) := by decide +kernel
theorem dX5_init_1988 : decode cX5_init 1988 = .ok (.iload_n 1, 1) := by decide +kernel
theorem dX5_init_1989 : decode cX5_init 1989 = .ok (.aload_n 0, 1) := by decide +kernel
theorem dX5_init_1990 : decode cX5_init 1990 = .ok (.getfield 9, 3) := by decide +kernel
theorem dX5_init_1993 : decode cX5_init 1993 = .ok (.arraylength, 1) := by decide +kernel
theorem dX5_init_1994 : decode cX5_init 1994 = .ok (.if_icmp .ge 39, 3) := by decide +kernel
theorem dX5_init_1997 : decode cX5_init 1997 = .ok (.aload_n 0, 1) := by decide +kernel
theorem dX5_init_1998 : decode cX5_init 1998 = .ok (.getfield 9, 3) := by decide +kernel
theorem dX5_init_2001 : decode cX5_init 2001 = .ok (.iload_n 1, 1) := by decide +kernel
theorem dX5_init_2002 : decode cX5_init 2002 = .ok (.iaload, 1) := by decide +kernel
theorem dX5_init_2003 : decode cX5_init 2003 = .ok (.sipush 3000, 3) := by decide +kernel
theorem dX5_init_2006 : decode cX5_init 2006 = .ok (.if_icmp .le 21, 3) := by decide +kernel
theorem dX5_init_2009 : decode cX5_init 2009 = .ok (.aload_n 0, 1) := by decide +kernel
theorem dX5_init_2010 : decode cX5_init 2010 = .ok (.getfield 13, 3) := by decide +kernel
theorem dX5_init_2013 : decode cX5_init 2013 = .ok (.aload_n 0, 1) := by decide +kernel
theorem dX5_init_2014 : decode cX5_init 2014 = .ok (.getfield 9, 3) := by decide +kernel
theorem dX5_init_2017 : decode cX5_init 2017 = .ok (.iload_n 1, 1) := by decide +kernel
theorem dX5_init_2018 : decode cX5_init 2018 = .ok (.iaload, 1) := by decide +kernel
theorem dX5_init_2019 : decode cX5_init 2019 = .ok (.sipush 3000, 3) := by decide +kernel
theorem dX5_init_2022 : decode cX5_init 2022 = .ok (.isub, 1) := by decide +kernel
theorem dX5_init_2023 : decode cX5_init 2023 = .ok (.iload_n 1, 1) := by decide +kernel
theorem dX5_init_2024 : decode cX5_init 2024 = .ok (.iconst 1, 1) := by decide +kernel
theorem dX5_init_2025 : decode cX5_init 2025 = .ok (.iadd, 1) := by decide +kernel
theorem dX5_init_2026 : decode cX5_init 2026 = .ok (.iastore, 1) := by decide +kernel
theorem dX5_init_2027 : decode cX5_init 2027 = .ok (.iinc 1 1, 3) := by decide +kernel
theorem dX5_init_2030 : decode cX5_init 2030 = .ok (.goto (-42), 3) := by decide +kernel
theorem dX5_init_2033 : decode cX5_init 2033 = .ok (.aload_n 0, 1) := by decide +kernel
theorem dX5_init_2034 : decode cX5_init 2034 = .ok (.iconst 1, 1) := by decide +kernel
theorem dX5_init_2035 : decode cX5_init 2035 = .ok (.iconst 1, 1) := by decide +kernel
theorem dX5_init_2036 : decode cX5_init 2036 = .ok (.bipush 10, 2) := by decide +kernel
theorem dX5_init_2038 : decode cX5_init 2038 = .ok (.invokevirtual 77, 3) := by decide +kernel
theorem dX5_init_2041 : decode cX5_init 2041 = .ok (.aload_n 0, 1) := by decide +kernel
theorem dX5_init_2042 : decode cX5_init 2042 = .ok (.iconst 1, 1) := by decide +kernel
theorem dX5_init_2043 : decode cX5_init 2043 = .ok (.iconst 2, 1) := by decide +kernel
theorem dX5_init_2044 : decode cX5_init 2044 = .ok (.bipush 11, 2) := by decide +kernel
theorem dX5_init_2046 : decode cX5_init 2046 = .ok (.invokevirtual 77, 3) := by decide +kernel
theorem dX5_init_2049 : decode cX5_init 2049 = .ok (.aload_n 0, 1) := by decide +kernel
theorem dX5_init_2050 : decode cX5_init 2050 = .ok (.iconst 2, 1) := by decide +kernel
theorem dX5_init_2051 : decode cX5_init 2051 = .ok (.iconst 4, 1) := by decide +kernel
theorem dX5_init_2052 : decode cX5_init 2052 = .ok (.bipush 20, 2) := by decide +kernel
theorem dX5_init_2054 : decode cX5_init 2054 = .ok (.invokevirtual 77, 3) := by decide +kernel
theorem dX5_init_2057 : decode cX5_init 2057 = .ok (.aload_n 0, 1) := by decide +kernel
theorem dX5_init_2058 : decode cX5_init 2058 = .ok (.iconst 2, 1) := by decide +kernel
theorem dX5_init_2059 : decode cX5_init 2059 = .ok (.iconst 2, 1) := by decide +kernel
theorem dX5_init_2060 : decode cX5_init 2060 = .ok (.bipush 21, 2) := by decide +kernel
theorem dX5_init_2062 : decode cX5_init 2062 = .ok (.invokevirtual 77, 3) := by decide +kernel
theorem dX5_init_2065 : decode cX5_init 2065 = .ok (.aload_n 0, 1) := by decide +kernel
theorem dX5_init_2066 : decode cX5_init 2066 = .ok (.iconst 3, 1) := by decide +kernel
theorem dX5_init_2067 : decode cX5_init 2067 = .ok (.iconst 2, 1) := by decide +kernel
theorem dX5_init_2068 : decode cX5_init 2068 = .ok (.bipush 30, 2) := by decide +kernel
theorem dX5_init_2070 : decode cX5_init 2070 = .ok (.invokevirtual 77, 3) := by decide +kernel
theorem dX5_init_2073 : decode cX5_init 2073 = .ok (.aload_n 0, 1) := by decide +kernel
theorem dX5_init_2074 : decode cX5_init 2074 = .ok (.iconst 4, 1) := by decide +kernel
theorem dX5_init_2075 : decode cX5_init 2075 = .ok (.bipush 6, 2) := by decide +kernel
theorem dX5_init_2077 : decode cX5_init 2077 = .ok (.bipush 40, 2) := by decide +kernel
theorem dX5_init_2079 : decode cX5_init 2079 = .ok (.invokevirtual 77, 3) := by decide +kernel
theorem dX5_init_2082 : decode cX5_init 2082 = .ok (.aload_n 0, 1) := by decide +kernel
theorem dX5_init_2083 : decode cX5_init 2083 = .ok (.iconst 4, 1) := by decide +kernel
theorem dX5_init_2084 : decode cX5_init 2084 = .ok (.bipush 7, 2) := by decide +kernel
theorem dX5_init_2086 : decode cX5_init 2086 = .ok (.bipush 41, 2) := by decide +kernel
theorem dX5_init_2088 : decode cX5_init 2088 = .ok (.invokevirtual 77, 3) := by decide +kernel
theorem dX5_init_2091 : decode cX5_init 2091 = .ok (.aload_n 0, 1) := by decide +kernel
end
section
theorem dX5_init_2092 : decode cX5_init 2092 = .ok (.iconst 5, 1) := by decide +kernel
theorem dX5_init_2093 : decode cX5_init 2093 = .ok (.bipush 7, 2) := by decide +kernel
theorem dX5_init_2095 : decode cX5_init 2095 = .ok (.bipush 50, 2) := by decide +kernel
theorem dX5_init_2097 : decode cX5_init 2097 = .ok (.invokevirtual 77, 3) := by decide +kernel
theorem dX5_init_2100 : decode cX5_init 2100 = .ok (.aload_n 0, 1) := by decide +kernel
theorem dX5_init_2101 : decode cX5_init 2101 = .ok (.iconst 5, 1) := by decide +kernel
theorem dX5_init_2102 : decode cX5_init 2102 = .ok (.bipush 8, 2) := by decide +kernel
theorem dX5_init_2104 : decode cX5_init 2104 = .ok (.bipush 51, 2) := by decide +kernel
theorem dX5_init_2106 : decode cX5_init 2106 = .ok (.invokevirtual 77, 3) := by decide +kernel
theorem dX5_init_2109 : decode cX5_init 2109 = .ok (.aload_n 0, 1) := by decide +kernel
theorem dX5_init_2110 : decode cX5_init 2110 = .ok (.bipush 6, 2) := by decide +kernel
theorem dX5_init_2112 : decode cX5_init 2112 = .ok (.bipush 9, 2) := by decide +kernel
theorem dX5_init_2114 : decode cX5_init 2114 = .ok (.bipush 60, 2) := by decide +kernel
theorem dX5_init_2116 : decode cX5_init 2116 = .ok (.invokevirtual 77, 3) := by decide +kernel
theorem dX5_init_2119 : decode cX5_init 2119 = .ok (.aload_n 0, 1) := by decide +kernel
theorem dX5_init_2120 : decode cX5_init 2120 = .ok (.bipush 6, 2) := by decide +kernel
theorem dX5_init_2122 : decode cX5_init 2122 = .ok (.bipush 10, 2) := by decide +kernel
theorem dX5_init_2124 : decode cX5_init 2124 = .ok (.bipush 61, 2) := by decide +kernel
theorem dX5_init_2126 : decode cX5_init 2126 = .ok (.invokevirtual 77, 3) := by decide +kernel
theorem dX5_init_2129 : decode cX5_init 2129 = .ok (.aload_n 0, 1) := by decide +kernel
theorem dX5_init_2130 : decode cX5_init 2130 = .ok (.bipush 6, 2) := by decide +kernel
theorem dX5_init_2132 : decode cX5_init 2132 = .ok (.iconst 3, 1) := by decide +kernel
theorem dX5_init_2133 : decode cX5_init 2133 = .ok (.bipush 62, 2) := by decide +kernel
theorem dX5_init_2135 : decode cX5_init 2135 = .ok (.invokevirtual 77, 3) := by decide +kernel
theorem dX5_init_2138 : decode cX5_init 2138 = .ok (.aload_n 0, 1) := by decide +kernel
theorem dX5_init_2139 : decode cX5_init 2139 = .ok (.bipush 6, 2) := by decide +kernel
theorem dX5_init_2141 : decode cX5_init 2141 = .ok (.bipush 11, 2) := by decide +kernel
theorem dX5_init_2143 : decode cX5_init 2143 = .ok (.bipush 64, 2) := by decide +kernel
theorem dX5_init_2145 : decode cX5_init 2145 = .ok (.invokevirtual 77, 3) := by decide +kernel
theorem dX5_init_2148 : decode cX5_init 2148 = .ok (.aload_n 0, 1) := by decide +kernel
theorem dX5_init_2149 : decode cX5_init 2149 = .ok (.bipush 7, 2) := by decide +kernel
theorem dX5_init_2151 : decode cX5_init 2151 = .ok (.iconst 5, 1) := by decide +kernel
theorem dX5_init_2152 : decode cX5_init 2152 = .ok (.bipush 70, 2) := by decide +kernel
theorem dX5_init_2154 : decode cX5_init 2154 = .ok (.invokevirtual 77, 3) := by decide +kernel
theorem dX5_init_2157 : decode cX5_init 2157 = .ok (.aload_n 0, 1) := by decide +kernel
theorem dX5_init_2158 : decode cX5_init 2158 = .ok (.bipush 10, 2) := by decide +kernel
theorem dX5_init_2160 : decode cX5_init 2160 = .ok (.iconst 0, 1) := by decide +kernel
theorem dX5_init_2161 : decode cX5_init 2161 = .ok (.bipush 100, 2) := by decide +kernel
theorem dX5_init_2163 : decode cX5_init 2163 = .ok (.invokevirtual 77, 3) := by decide +kernel
theorem dX5_init_2166 : decode cX5_init 2166 = .ok (.aload_n 0, 1) := by decide +kernel
theorem dX5_init_2167 : decode cX5_init 2167 = .ok (.bipush 10, 2) := by decide +kernel
theorem dX5_init_2169 : decode cX5_init 2169 = .ok (.bipush 9, 2) := by decide +kernel
theorem dX5_init_2171 : decode cX5_init 2171 = .ok (.bipush 101, 2) := by decide +kernel
theorem dX5_init_2173 : decode cX5_init 2173 = .ok (.invokevirtual 77, 3) := by decide +kernel
theorem dX5_init_2176 : decode cX5_init 2176 = .ok (.aload_n 0, 1) := by decide +kernel
theorem dX5_init_2177 : decode cX5_init 2177 = .ok (.bipush 11, 2) := by decide +kernel
theorem dX5_init_2179 : decode cX5_init 2179 = .ok (.bipush 10, 2) := by decide +kernel
theorem dX5_init_2181 : decode cX5_init 2181 = .ok (.bipush 110, 2) := by decide +kernel
theorem dX5_init_2183 : decode cX5_init 2183 = .ok (.invokevirtual 77, 3) := by decide +kernel
theorem dX5_init_2186 : decode cX5_init 2186 = .ok (.aload_n 0, 1) := by decide +kernel
theorem dX5_init_2187 : decode cX5_init 2187 = .ok (.bipush 11, 2) := by decide +kernel
theorem dX5_init_2189 : decode cX5_init 2189 = .ok (.iconst 4, 1) := by decide +kernel
theorem dX5_init_2190 : decode cX5_init 2190 = .ok (.bipush 111, 2) := by decide +kernel
theorem dX5_init_2192 : decode cX5_init 2192 = .ok (.invokevirtual 77, 3) := by decide +kernel
theorem dX5_init_2195 : decode cX5_init 2195 = .ok (.aload_n 0, 1) := by decide +kernel
theorem dX5_init_2196 : decode cX5_init 2196 = .ok (.bipush 12, 2) := by decide +kernel
theorem dX5_init_2198 : decode cX5_init 2198 = .ok (.bipush 6, 2) := by decide +kernel
theorem dX5_init_2200 : decode cX5_init 2200 = .ok (.bipush 120, 2) := by decide +kernel
theorem dX5_init_2202 : decode cX5_init 2202 = .ok (.invokevirtual 77, 3) := by decide +kernel
theorem dX5_init_2205 : decode cX5_init 2205 = .ok (.aload_n 0, 1) := by decide +kernel
theorem dX5_init_2206 : decode cX5_init 2206 = .ok (.bipush 13, 2) := by decide +kernel
theorem dX5_init_2208 : decode cX5_init 2208 = .ok (.iconst 0, 1) := by decide +kernel
theorem dX5_init_2209 : decode cX5_init 2209 = .ok (.sipush 130, 3) := by decide +kernel
theorem dX5_init_2212 : decode cX5_init 2212 = .ok (.invokevirtual 77, 3) := by decide +kernel
theorem dX5_init_2215 : decode cX5_init 2215 = .ok (.aload_n 0, 1) := by decide +kernel
theorem dX5_init_2216 : decode cX5_init 2216 = .ok (.bipush 13, 2) := by decide +kernel
theorem dX5_init_2218 : decode cX5_init 2218 = .ok (.iconst 1, 1) := by decide +kernel
theorem dX5_init_2219 : decode cX5_init 2219 = .ok (.sipush 131, 3) := by decide +kernel
theorem dX5_init_2222 : decode cX5_init 2222 = .ok (.invokevirtual 77, 3) := by decide +kernel
theorem dX5_init_2225 : decode cX5_init 2225 = .ok (.aload_n 0, 1) := by decide +kernel
theorem dX5_init_2226 : decode cX5_init 2226 = .ok (.bipush 14, 2) := by decide +kernel
theorem dX5_init_2228 : decode cX5_init 2228 = .ok (.iconst 0, 1) := by decide +kernel
theorem dX5_init_2229 : decode cX5_init 2229 = .ok (.sipush 140, 3) := by decide +kernel
theorem dX5_init_2232 : decode cX5_init 2232 = .ok (.invokevirtual 77, 3) := by decide +kernel
theorem dX5_init_2235 : decode cX5_init 2235 = .ok (.aload_n 0, 1) := by decide +kernel
theorem dX5_init_2236 : decode cX5_init 2236 = .ok (.bipush 14, 2) := by decide +kernel
theorem dX5_init_2238 : decode cX5_init 2238 = .ok (.iconst 2, 1) := by decide +kernel
theorem dX5_init_2239 : decode cX5_init 2239 = .ok (.sipush 141, 3) := by decide +kernel
theorem dX5_init_2242 : decode cX5_init 2242 = .ok (.invokevirtual 77, 3) := by decide +kernel
theorem dX5_init_2245 : decode cX5_init 2245 = .ok (.aload_n 0, 1) := by decide +kernel
theorem dX5_init_2246 : decode cX5_init 2246 = .ok (.bipush 14, 2) := by decide +kernel
theorem dX5_init_2248 : decode cX5_init 2248 = .ok (.bipush 10, 2) := by decide +kernel
theorem dX5_init_2250 : decode cX5_init 2250 = .ok (.sipush 142, 3) := by decide +kernel
theorem dX5_init_2253 : decode cX5_init 2253 = .ok (.invokevirtual 77, 3) := by decide +kernel
theorem dX5_init_2256 : decode cX5_init 2256 = .ok (.aload_n 0, 1) := by decide +kernel
theorem dX5_init_2257 : decode cX5_init 2257 = .ok (.bipush 15, 2) := by decide +kernel
theorem dX5_init_2259 : decode cX5_init 2259 = .ok (.iconst 0, 1) := by decide +kernel
theorem dX5_init_2260 : decode cX5_init 2260 = .ok (.sipush 150, 3) := by decide +kernel
theorem dX5_init_2263 : decode cX5_init 2263 = .ok (.invokevirtual 77, 3) := by decide +kernel
theorem dX5_init_2266 : decode cX5_init 2266 = .ok (.aload_n 0, 1) := by decide +kernel
theorem dX5_init_2267 : decode cX5_init 2267 = .ok (.bipush 15, 2) := by decide +kernel
theorem dX5_init_2269 : decode cX5_init 2269 = .ok (.bipush 9, 2) := by decide +kernel
theorem dX5_init_2271 : decode cX5_init 2271 = .ok (.sipush 151, 3) := by decide +kernel
theorem dX5_init_2274 : decode cX5_init 2274 = .ok (.invokevirtual 77, 3) := by decide +kernel
theorem dX5_init_2277 : decode cX5_init 2277 = .ok (.aload_n 0, 1) := by decide +kernel
theorem dX5_init_2278 : decode cX5_init 2278 = .ok (.bipush 15, 2) := by decide +kernel
theorem dX5_init_2280 : decode cX5_init 2280 = .ok (.iconst 4, 1) := by decide +kernel
theorem dX5_init_2281 : decode cX5_init 2281 = .ok (.sipush 152, 3) := by decide +kernel
theorem dX5_init_2284 : decode cX5_init 2284 = .ok (.invokevirtual 77, 3) := by decide +kernel
theorem dX5_init_2287 : decode cX5_init 2287 = .ok (.aload_n 0, 1) := by decide +kernel
theorem dX5_init_2288 : decode cX5_init 2288 = .ok (.bipush 16, 2) := by decide +kernel
theorem dX5_init_2290 : decode cX5_init 2290 = .ok (.iconst 5, 1) := by decide +kernel
theorem dX5_init_2291 : decode cX5_init 2291 = .ok (.sipush 160, 3) := by decide +kernel
theorem dX5_init_2294 : decode cX5_init 2294 = .ok (.invokevirtual 77, 3) := by decide +kernel
theorem dX5_init_2297 : decode cX5_init 2297 = .ok (.aload_n 0, 1) := by decide +kernel
theorem dX5_init_2298 : decode cX5_init 2298 = .ok (.bipush 16, 2) := by decide +kernel
theorem dX5_init_2300 : decode cX5_init 2300 = .ok (.bipush 8, 2) := by decide +kernel
theorem dX5_init_2302 : decode cX5_init 2302 = .ok (.sipush 161, 3) := by decide +kernel
theorem dX5_init_2305 : decode cX5_init 2305 = .ok (.invokevirtual 77, 3) := by decide +kernel
theorem dX5_init_2308 : decode cX5_init 2308 = .ok (.aload_n 0, 1) := by decide +kernel
theorem dX5_init_2309 : decode cX5_init 2309 = .ok (.bipush 16, 2) := by decide +kernel
theorem dX5_init_2311 : decode cX5_init 2311 = .ok (.bipush 9, 2) := by decide +kernel
theorem dX5_init_2313 : decode cX5_init 2313 = .ok (.sipush 163, 3) := by decide +kernel
theorem dX5_init_2316 : decode cX5_init 2316 = .ok (.invokevirtual 77, 3) := by decide +kernel
theorem dX5_init_2319 : decode cX5_init 2319 = .ok (.aload_n 0, 1) := by decide +kernel
theorem dX5_init_2320 : decode cX5_init 2320 = .ok (.bipush 18, 2) := by decide +kernel
theorem dX5_init_2322 : decode cX5_init 2322 = .ok (.bipush 9, 2) := by decide +kernel
theorem dX5_init_2324 : decode cX5_init 2324 = .ok (.sipush 180, 3) := by decide +kernel
theorem dX5_init_2327 : decode cX5_init 2327 = .ok (.invokevirtual 77, 3) := by decide +kernel
theorem dX5_init_2330 : decode cX5_init 2330 = .ok (.aload_n 0, 1) := by decide +kernel
theorem dX5_init_2331 : decode cX5_init 2331 = .ok (.bipush 18, 2) := by decide +kernel
theorem dX5_init_2333 : decode cX5_init 2333 = .ok (.iconst 2, 1) := by decide +kernel
theorem dX5_init_2334 : decode cX5_init 2334 = .ok (.sipush 181, 3) := by decide +kernel
theorem dX5_init_2337 : decode cX5_init 2337 = .ok (.invokevirtual 77, 3) := by decide +kernel
theorem dX5_init_2340 : decode cX5_init 2340 = .ok (.aload_n 0, 1) := by decide +kernel
theorem dX5_init_2341 : decode cX5_init 2341 = .ok (.bipush 19, 2) := by decide +kernel
theorem dX5_init_2343 : decode cX5_init 2343 = .ok (.iconst 0, 1) := by decide +kernel
theorem dX5_init_2344 : decode cX5_init 2344 = .ok (.sipush 190, 3) := by decide +kernel
theorem dX5_init_2347 : decode cX5_init 2347 = .ok (.invokevirtual 77, 3) := by decide +kernel
theorem dX5_init_2350 : decode cX5_init 2350 = .ok (.aload_n 0, 1) := by decide +kernel
theorem dX5_init_2351 : decode cX5_init 2351 = .ok (.bipush 20, 2) := by decide +kernel
theorem dX5_init_2353 : decode cX5_init 2353 = .ok (.bipush 7, 2) := by decide +kernel
theorem dX5_init_2355 : decode cX5_init 2355 = .ok (.sipush 201, 3) := by decide +kernel
theorem dX5_init_2358 : decode cX5_init 2358 = .ok (.invokevirtual 77, 3) := by decide +kernel
theorem dX5_init_2361 : decode cX5_init 2361 = .ok (.aload_n 0, 1) := by decide +kernel
theorem dX5_init_2362 : decode cX5_init 2362 = .ok (.bipush 20, 2) := by decide +kernel
theorem dX5_init_2364 : decode cX5_init 2364 = .ok (.iconst 2, 1) := by decide +kernel
theorem dX5_init_2365 : decode cX5_init 2365 = .ok (.sipush 202, 3) := by decide +kernel
theorem dX5_init_2368 : decode cX5_init 2368 = .ok (.invokevirtual 77, 3) := by decide +kernel
theorem dX5_init_2371 : decode cX5_init 2371 = .ok (.aload_n 0, 1) := by decide +kernel
theorem dX5_init_2372 : decode cX5_init 2372 = .ok (.bipush 20, 2) := by decide +kernel
theorem dX5_init_2374 : decode cX5_init 2374 = .ok (.iconst 5, 1) := by decide +kernel
theorem dX5_init_2375 : decode cX5_init 2375 = .ok (.sipush 204, 3) := by decide +kernel
theorem dX5_init_2378 : decode cX5_init 2378 = .ok (.invokevirtual 77, 3) := by decide +kernel
theorem dX5_init_2381 : decode cX5_init 2381 = .ok (.aload_n 0, 1) := by decide +kernel
theorem dX5_init_2382 : decode cX5_init 2382 = .ok (.getfield 16, 3) := by decide +kernel
theorem dX5_init_2385 : decode cX5_init 2385 = .ok (.bipush 6, 2) := by decide +kernel
theorem dX5_init_2387 : decode cX5_init 2387 = .ok (.iconst (-1), 1) := by decide +kernel
theorem dX5_init_2388 : decode cX5_init 2388 = .ok (.iastore, 1) := by decide +kernel
theorem dX5_init_2389 : decode cX5_init 2389 = .ok (.aload_n 0, 1) := by decide +kernel
theorem dX5_init_2390 : decode cX5_init 2390 = .ok (.bipush 7, 2) := by decide +kernel
theorem dX5_init_2392 : decode cX5_init 2392 = .ok (.bipush 6, 2) := by decide +kernel
theorem dX5_init_2394 : decode cX5_init 2394 = .ok (.iconst 0, 1) := by decide +kernel
theorem dX5_init_2395 : decode cX5_init 2395 = .ok (.invokevirtual 81, 3) := by decide +kernel
theorem dX5_init_2398 : decode cX5_init 2398 = .ok (.aload_n 0, 1) := by decide +kernel
theorem dX5_init_2399 : decode cX5_init 2399 = .ok (.bipush 10, 2) := by decide +kernel
theorem dX5_init_2401 : decode cX5_init 2401 = .ok (.bipush 7, 2) := by decide +kernel
theorem dX5_init_2403 : decode cX5_init 2403 = .ok (.iconst 1, 1) := by decide +kernel
theorem dX5_init_2404 : decode cX5_init 2404 = .ok (.invokestatic 84, 3) := by decide +kernel
theorem dX5_init_2407 : decode cX5_init 2407 = .ok (.invokevirtual 81, 3) := by decide +kernel
theorem dX5_init_2410 : decode cX5_init 2410 = .ok (.aload_n 0, 1) := by decide +kernel
theorem dX5_init_2411 : decode cX5_init 2411 = .ok (.bipush 11, 2) := by decide +kernel
theorem dX5_init_2413 : decode cX5_init 2413 = .ok (.bipush 7, 2) := by decide +kernel
theorem dX5_init_2415 : decode cX5_init 2415 = .ok (.iconst 2, 1) := by decide +kernel
theorem dX5_init_2416 : decode cX5_init 2416 = .ok (.invokestatic 84, 3) := by decide +kernel
theorem dX5_init_2419 : decode cX5_init 2419 = .ok (.invokevirtual 81, 3) := by decide +kernel
theorem dX5_init_2422 : decode cX5_init 2422 = .ok (.aload_n 0, 1) := by decide +kernel
theorem dX5_init_2423 : decode cX5_init 2423 = .ok (.bipush 12, 2) := by decide +kernel
theorem dX5_init_2425 : decode cX5_init 2425 = .ok (.bipush 7, 2) := by decide +kernel
theorem dX5_init_2427 : decode cX5_init 2427 = .ok (.iconst 4, 1) := by decide +kernel
theorem dX5_init_2428 : decode cX5_init 2428 = .ok (.invokestatic 84, 3) := by decide +kernel
theorem dX5_init_2431 : decode cX5_init 2431 = .ok (.invokevirtual 81, 3) := by decide +kernel
theorem dX5_init_2434 : decode cX5_init 2434 = .ok (.aload_n 0, 1) := by decide +kernel
theorem dX5_init_2435 : decode cX5_init 2435 = .ok (.bipush 13, 2) := by decide +kernel
theorem dX5_init_2437 : decode cX5_init 2437 = .ok (.bipush 10, 2) := by decide +kernel
theorem dX5_init_2439 : decode cX5_init 2439 = .ok (.iconst 0, 1) := by decide +kernel
theorem dX5_init_2440 : decode cX5_init 2440 = .ok (.invokevirtual 81, 3) := by decide +kernel
theorem dX5_init_2443 : decode cX5_init 2443 = .ok (.aload_n 0, 1) := by decide +kernel
theorem dX5_init_2444 : decode cX5_init 2444 = .ok (.bipush 14, 2) := by decide +kernel
theorem dX5_init_2446 : decode cX5_init 2446 = .ok (.bipush 11, 2) := by decide +kernel
theorem dX5_init_2448 : decode cX5_init 2448 = .ok (.iconst 1, 1) := by decide +kernel
theorem dX5_init_2449 : decode cX5_init 2449 = .ok (.invokestatic 84, 3) := by decide +kernel
theorem dX5_init_2452 : decode cX5_init 2452 = .ok (.invokevirtual 81, 3) := by decide +kernel
theorem dX5_init_2455 : decode cX5_init 2455 = .ok (.aload_n 0, 1) := by decide +kernel
theorem dX5_init_2456 : decode cX5_init 2456 = .ok (.bipush 15, 2) := by decide +kernel
theorem dX5_init_2458 : decode cX5_init 2458 = .ok (.bipush 12, 2) := by decide +kernel
theorem dX5_init_2460 : decode cX5_init 2460 = .ok (.iconst 3, 1) := by decide +kernel
theorem dX5_init_2461 : decode cX5_init 2461 = .ok (.invokestatic 84, 3) := by decide +kernel
theorem dX5_init_2464 : decode cX5_init 2464 = .ok (.invokevirtual 81, 3) := by decide +kernel
theorem dX5_init_2467 : decode cX5_init 2467 = .ok (.aload_n 0, 1) := by decide +kernel
theorem dX5_init_2468 : decode cX5_init 2468 = .ok (.bipush 16, 2) := by decide +kernel
theorem dX5_init_2470 : decode cX5_init 2470 = .ok (.bipush 7, 2) := by decide +kernel
theorem dX5_init_2472 : decode cX5_init 2472 = .ok (.iconst 5, 1) := by decide +kernel
theorem dX5_init_2473 : decode cX5_init 2473 = .ok (.invokestatic 84, 3) := by decide +kernel
theorem dX5_init_2476 : decode cX5_init 2476 = .ok (.invokevirtual 81, 3) := by decide +kernel
theorem dX5_init_2479 : decode cX5_init 2479 = .ok (.aload_n 0, 1) := by decide +kernel
theorem dX5_init_2480 : decode cX5_init 2480 = .ok (.bipush 17, 2) := by decide +kernel
theorem dX5_init_2482 : decode cX5_init 2482 = .ok (.bipush 12, 2) := by decide +kernel
theorem dX5_init_2484 : decode cX5_init 2484 = .ok (.iconst 5, 1) := by decide +kernel
theorem dX5_init_2485 : decode cX5_init 2485 = .ok (.invokestatic 84, 3) := by decide +kernel
theorem dX5_init_2488 : decode cX5_init 2488 = .ok (.invokevirtual 81, 3) := by decide +kernel
theorem dX5_init_2491 : decode cX5_init 2491 = .ok (.aload_n 0, 1) := by decide +kernel
theorem dX5_init_2492 : decode cX5_init 2492 = .ok (.bipush 18, 2) := by decide +kernel
theorem dX5_init_2494 : decode cX5_init 2494 = .ok (.bipush 13, 2) := by decide +kernel
theorem dX5_init_2496 : decode cX5_init 2496 = .ok (.iconst 0, 1) := by decide +kernel
theorem dX5_init_2497 : decode cX5_init 2497 = .ok (.invokevirtual 81, 3) := by decide +kernel
theorem dX5_init_2500 : decode cX5_init 2500 = .ok (.aload_n 0, 1) := by decide +kernel
theorem dX5_init_2501 : decode cX5_init 2501 = .ok (.bipush 19, 2) := by decide +kernel
theorem dX5_init_2503 : decode cX5_init 2503 = .ok (.bipush 11, 2) := by decide +kernel
theorem dX5_init_2505 : decode cX5_init 2505 = .ok (.iconst 3, 1) := by decide +kernel
theorem dX5_init_2506 : decode cX5_init 2506 = .ok (.invokestatic 84, 3) := by decide +kernel
theorem dX5_init_2509 : decode cX5_init 2509 = .ok (.invokevirtual 81, 3) := by decide +kernel
theorem dX5_init_2512 : decode cX5_init 2512 = .ok (.aload_n 0, 1) := by decide +kernel
theorem dX5_init_2513 : decode cX5_init 2513 = .ok (.bipush 20, 2) := by decide +kernel
theorem dX5_init_2515 : decode cX5_init 2515 = .ok (.bipush 14, 2) := by decide +kernel
theorem dX5_init_2517 : decode cX5_init 2517 = .ok (.iconst 5, 1) := by decide +kernel
theorem dX5_init_2518 : decode cX5_init 2518 = .ok (.invokestatic 84, 3) := by decide +kernel
theorem dX5_init_2521 : decode cX5_init 2521 = .ok (.iconst 3, 1) := by decide +kernel
theorem dX5_init_2522 : decode cX5_init 2522 = .ok (.invokestatic 84, 3) := by decide +kernel
theorem dX5_init_2525 : decode cX5_init 2525 = .ok (.ior, 1) := by decide +kernel
theorem dX5_init_2526 : decode cX5_init 2526 = .ok (.invokevirtual 81, 3) := by decide +kernel
theorem dX5_init_2529 : decode cX5_init 2529 = .ok (.iconst 1, 1) := by decide +kernel
theorem dX5_init_2530 : decode cX5_init 2530 = .ok (.istore_n 1, 1) := by decide +kernel
theorem dX5_init_2531 : decode cX5_init 2531 = .ok (.iload_n 1, 1) := by decide +kernel
theorem dX5_init_2532 : decode cX5_init 2532 = .ok (.bipush 21, 2) := by decide +kernel
theorem dX5_init_2534 : decode cX5_init 2534 = .ok (.if_icmp .ge 60, 3) := by decide +kernel
theorem dX5_init_2537 : decode cX5_init 2537 = .ok (.iconst 0, 1) := by decide +kernel
theorem dX5_init_2538 : decode cX5_init 2538 = .ok (.istore_n 2, 1) := by decide +kernel
theorem dX5_init_2539 : decode cX5_init 2539 = .ok (.iload_n 2, 1) := by decide +kernel
theorem dX5_init_2540 : decode cX5_init 2540 = .ok (.bipush 12, 2) := by decide +kernel
theorem dX5_init_2542 : decode cX5_init 2542 = .ok (.if_icmp .ge 46, 3) := by decide +kernel
theorem dX5_init_2545 : decode cX5_init 2545 = .ok (.aload_n 0, 1) := by decide +kernel
theorem dX5_init_2546 : decode cX5_init 2546 = .ok (.getfield 25, 3) := by decide +kernel
theorem dX5_init_2549 : decode cX5_init 2549 = .ok (.iload_n 1, 1) := by decide +kernel
theorem dX5_init_2550 : decode cX5_init 2550 = .ok (.bipush 12, 2) := by decide +kernel
theorem dX5_init_2552 : decode cX5_init 2552 = .ok (.imul, 1) := by decide +kernel
theorem dX5_init_2553 : decode cX5_init 2553 = .ok (.iload_n 2, 1) := by decide +kernel
theorem dX5_init_2554 : decode cX5_init 2554 = .ok (.iadd, 1) := by decide +kernel
theorem dX5_init_2555 : decode cX5_init 2555 = .ok (.iload_n 1, 1) := by decide +kernel
theorem dX5_init_2556 : decode cX5_init 2556 = .ok (.iconst 5, 1) := by decide +kernel
theorem dX5_init_2557 : decode cX5_init 2557 = .ok (.if_icmp .gt 18, 3) := by decide +kernel
theorem dX5_init_2560 : decode cX5_init 2560 = .ok (.aload_n 0, 1) := by decide +kernel
theorem dX5_init_2561 : decode cX5_init 2561 = .ok (.iload_n 1, 1) := by decide +kernel
theorem dX5_init_2562 : decode cX5_init 2562 = .ok (.invokestatic 84, 3) := by decide +kernel
theorem dX5_init_2565 : decode cX5_init 2565 = .ok (.invokestatic 88, 3) := by decide +kernel
theorem dX5_init_2568 : decode cX5_init 2568 = .ok (.iload_n 2, 1) := by decide +kernel
theorem dX5_init_2569 : decode cX5_init 2569 = .ok (.invokevirtual 91, 3) := by decide +kernel
theorem dX5_init_2572 : decode cX5_init 2572 = .ok (.goto 9, 3) := by decide +kernel
theorem dX5_init_2575 : decode cX5_init 2575 = .ok (.aload_n 0, 1) := by decide +kernel
theorem dX5_init_2576 : decode cX5_init 2576 = .ok (.iload_n 1, 1) := by decide +kernel
theorem dX5_init_2577 : decode cX5_init 2577 = .ok (.iload_n 2, 1) := by decide +kernel
theorem dX5_init_2578 : decode cX5_init 2578 = .ok (.invokevirtual 95, 3) := by decide +kernel
theorem dX5_init_2581 : decode cX5_init 2581 = .ok (.iastore, 1) := by decide +kernel
theorem dX5_init_2582 : decode cX5_init 2582 = .ok (.iinc 2 1, 3) := by decide +kernel
theorem dX5_init_2585 : decode cX5_init 2585 = .ok (.goto (-46), 3) := by decide +kernel
theorem dX5_init_2588 : decode cX5_init 2588 = .ok (.iinc 1 1, 3) := by decide +kernel
theorem dX5_init_2591 : decode cX5_init 2591 = .ok (.goto (-60), 3) := by decide +kernel
theorem dX5_init_2594 : decode cX5_init 2594 = .ok (.aload_n 0, 1) := by decide +kernel
theorem dX5_init_2595 : decode cX5_init 2595 = .ok (.getfield 28, 3) := by decide +kernel
theorem dX5_init_2598 : decode cX5_init 2598 = .ok (.iconst 1, 1) := by decide +kernel
theorem dX5_init_2599 : decode cX5_init 2599 = .ok (.iconst 3, 1) := by decide +kernel
theorem dX5_init_2600 : decode cX5_init 2600 = .ok (.invokestatic 84, 3) := by decide +kernel
theorem dX5_init_2603 : decode cX5_init 2603 = .ok (.iconst 5, 1) := by decide +kernel
theorem dX5_init_2604 : decode cX5_init 2604 = .ok (.invokestatic 84, 3) := by decide +kernel
theorem dX5_init_2607 : decode cX5_init 2607 = .ok (.ior, 1) := by decide +kernel
theorem dX5_init_2608 : decode cX5_init 2608 = .ok (.bipush 9, 2) := by decide +kernel
theorem dX5_init_2610 : decode cX5_init 2610 = .ok (.invokestatic 84, 3) := by decide +kernel
theorem dX5_init_2613 : decode cX5_init 2613 = .ok (.ior, 1) := by decide +kernel
theorem dX5_init_2614 : decode cX5_init 2614 = .ok (.bipush 10, 2) := by decide +kernel
theorem dX5_init_2616 : decode cX5_init 2616 = .ok (.invokestatic 84, 3) := by decide +kernel
theorem dX5_init_2619 : decode cX5_init 2619 = .ok (.ior, 1) := by decide +kernel
theorem dX5_init_2620 : decode cX5_init 2620 = .ok (.bipush 11, 2) := by decide +kernel
theorem dX5_init_2622 : decode cX5_init 2622 = .ok (.invokestatic 84, 3) := by decide +kernel
theorem dX5_init_2625 : decode cX5_init 2625 = .ok (.ior, 1) := by decide +kernel
theorem dX5_init_2626 : decode cX5_init 2626 = .ok (.iastore, 1) := by decide +kernel
theorem dX5_init_2627 : decode cX5_init 2627 = .ok (.aload_n 0, 1) := by decide +kernel
theorem dX5_init_2628 : decode cX5_init 2628 = .ok (.getfield 28, 3) := by decide +kernel
theorem dX5_init_2631 : decode cX5_init 2631 = .ok (.iconst 2, 1) := by decide +kernel
theorem dX5_init_2632 : decode cX5_init 2632 = .ok (.iconst 0, 1) := by decide +kernel
theorem dX5_init_2633 : decode cX5_init 2633 = .ok (.invokestatic 84, 3) := by decide +kernel
theorem dX5_init_2636 : decode cX5_init 2636 = .ok (.iconst 1, 1) := by decide +kernel
theorem dX5_init_2637 : decode cX5_init 2637 = .ok (.invokestatic 84, 3) := by decide +kernel
theorem dX5_init_2640 : decode cX5_init 2640 = .ok (.ior, 1) := by decide +kernel
theorem dX5_init_2641 : decode cX5_init 2641 = .ok (.iconst 2, 1) := by decide +kernel
theorem dX5_init_2642 : decode cX5_init 2642 = .ok (.invokestatic 84, 3) := by decide +kernel
theorem dX5_init_2645 : decode cX5_init 2645 = .ok (.ior, 1) := by decide +kernel
theorem dX5_init_2646 : decode cX5_init 2646 = .ok (.iastore, 1) := by decide +kernel
theorem dX5_init_2647 : decode cX5_init 2647 = .ok (.aload_n 0, 1) := by decide +kernel
theorem dX5_init_2648 : decode cX5_init 2648 = .ok (.getfield 28, 3) := by decide +kernel
theorem dX5_init_2651 : decode cX5_init 2651 = .ok (.iconst 3, 1) := by decide +kernel
theorem dX5_init_2652 : decode cX5_init 2652 = .ok (.iconst 3, 1) := by decide +kernel
theorem dX5_init_2653 : decode cX5_init 2653 = .ok (.invokestatic 84, 3) := by decide +kernel
theorem dX5_init_2656 : decode cX5_init 2656 = .ok (.iconst 4, 1) := by decide +kernel
theorem dX5_init_2657 : decode cX5_init 2657 = .ok (.invokestatic 84, 3) := by decide +kernel
theorem dX5_init_2660 : decode cX5_init 2660 = .ok (.ior, 1) := by decide +kernel
theorem dX5_init_2661 : decode cX5_init 2661 = .ok (.iconst 2, 1) := by decide +kernel
theorem dX5_init_2662 : decode cX5_init 2662 = .ok (.invokestatic 84, 3) := by decide +kernel
theorem dX5_init_2665 : decode cX5_init 2665 = .ok (.ior, 1) := by decide +kernel
theorem dX5_init_2666 : decode cX5_init 2666 = .ok (.iastore, 1) := by decide +kernel
theorem dX5_init_2667 : decode cX5_init 2667 = .ok (.aload_n 0, 1) := by decide +kernel
theorem dX5_init_2668 : decode cX5_init 2668 = .ok (.getfield 28, 3) := by decide +kernel
theorem dX5_init_2671 : decode cX5_init 2671 = .ok (.iconst 4, 1) := by decide +kernel
theorem dX5_init_2672 : decode cX5_init 2672 = .ok (.aload_n 0, 1) := by decide +kernel
theorem dX5_init_2673 : decode cX5_init 2673 = .ok (.getfield 28, 3) := by decide +kernel
theorem dX5_init_2676 : decode cX5_init 2676 = .ok (.iconst 2, 1) := by decide +kernel
theorem dX5_init_2677 : decode cX5_init 2677 = .ok (.iaload, 1) := by decide +kernel
theorem dX5_init_2678 : decode cX5_init 2678 = .ok (.aload_n 0, 1) := by decide +kernel
theorem dX5_init_2679 : decode cX5_init 2679 = .ok (.getfield 28, 3) := by decide +kernel
theorem dX5_init_2682 : decode cX5_init 2682 = .ok (.iconst 3, 1) := by decide +kernel
theorem dX5_init_2683 : decode cX5_init 2683 = .ok (.iaload, 1) := by decide +kernel
theorem dX5_init_2684 : decode cX5_init 2684 = .ok (.ior, 1) := by decide +kernel
theorem dX5_init_2685 : decode cX5_init 2685 = .ok (.iastore, 1) := by decide +kernel
theorem dX5_init_2686 : decode cX5_init 2686 = .ok (.aload_n 0, 1) := by decide +kernel
theorem dX5_init_2687 : decode cX5_init 2687 = .ok (.getfield 28, 3) := by decide +kernel
theorem dX5_init_2690 : decode cX5_init 2690 = .ok (.iconst 5, 1) := by decide +kernel
theorem dX5_init_2691 : decode cX5_init 2691 = .ok (.iconst 5, 1) := by decide +kernel
theorem dX5_init_2692 : decode cX5_init 2692 = .ok (.invokestatic 84, 3) := by decide +kernel
theorem dX5_init_2695 : decode cX5_init 2695 = .ok (.bipush 6, 2) := by decide +kernel
theorem dX5_init_2697 : decode cX5_init 2697 = .ok (.invokestatic 84, 3) := by decide +kernel
theorem dX5_init_2700 : decode cX5_init 2700 = .ok (.ior, 1) := by decide +kernel
theorem dX5_init_2701 : decode cX5_init 2701 = .ok (.bipush 7, 2) := by decide +kernel
theorem dX5_init_2703 : decode cX5_init 2703 = .ok (.invokestatic 84, 3) := by decide +kernel
theorem dX5_init_2706 : decode cX5_init 2706 = .ok (.ior, 1) := by decide +kernel
theorem dX5_init_2707 : decode cX5_init 2707 = .ok (.iastore, 1) := by decide +kernel
theorem dX5_init_2708 : decode cX5_init 2708 = .ok (.aload_n 0, 1) := by decide +kernel
theorem dX5_init_2709 : decode cX5_init 2709 = .ok (.getfield 28, 3) := by decide +kernel
theorem dX5_init_2712 : decode cX5_init 2712 = .ok (.bipush 6, 2) := by decide +kernel
theorem dX5_init_2714 : decode cX5_init 2714 = .ok (.aload_n 0, 1) := by decide +kernel
theorem dX5_init_2715 : decode cX5_init 2715 = .ok (.getfield 28, 3) := by decide +kernel
theorem dX5_init_2718 : decode cX5_init 2718 = .ok (.iconst 5, 1) := by decide +kernel
theorem dX5_init_2719 : decode cX5_init 2719 = .ok (.iaload, 1) := by decide +kernel
theorem dX5_init_2720 : decode cX5_init 2720 = .ok (.bipush 8, 2) := by decide +kernel
theorem dX5_init_2722 : decode cX5_init 2722 = .ok (.invokestatic 84, 3) := by decide +kernel
theorem dX5_init_2725 : decode cX5_init 2725 = .ok (.ior, 1) := by decide +kernel
theorem dX5_init_2726 : decode cX5_init 2726 = .ok (.iastore, 1) := by decide +kernel
theorem dX5_init_2727 : decode cX5_init 2727 = .ok (.iconst 0, 1) := by decide +kernel
theorem dX5_init_2728 : decode cX5_init 2728 = .ok (.istore_n 1, 1) := by decide +kernel
theorem dX5_init_2729 : decode cX5_init 2729 = .ok (.iload_n 1, 1) := by decide +kernel
theorem dX5_init_2730 : decode cX5_init 2730 = .ok (.bipush 11, 2) := by decide +kernel
theorem dX5_init_2732 : decode cX5_init 2732 = .ok (.if_icmp .ge 68, 3) := by decide +kernel
theorem dX5_init_2735 : decode cX5_init 2735 = .ok (.aload_n 0, 1) := by decide +kernel
theorem dX5_init_2736 : decode cX5_init 2736 = .ok (.getfield 31, 3) := by decide +kernel
theorem dX5_init_2739 : decode cX5_init 2739 = .ok (.iload_n 1, 1) := by decide +kernel
theorem dX5_init_2740 : decode cX5_init 2740 = .ok (.aload_n 0, 1) := by decide +kernel
theorem dX5_init_2741 : decode cX5_init 2741 = .ok (.getfield 28, 3) := by decide +kernel
theorem dX5_init_2744 : decode cX5_init 2744 = .ok (.iconst 1, 1) := by decide +kernel
theorem dX5_init_2745 : decode cX5_init 2745 = .ok (.iaload, 1) := by decide +kernel
theorem dX5_init_2746 : decode cX5_init 2746 = .ok (.iastore, 1) := by decide +kernel
theorem dX5_init_2747 : decode cX5_init 2747 = .ok (.iconst 1, 1) := by decide +kernel
theorem dX5_init_2748 : decode cX5_init 2748 = .ok (.istore_n 2, 1) := by decide +kernel
theorem dX5_init_2749 : decode cX5_init 2749 = .ok (.iload_n 2, 1) := by decide +kernel
theorem dX5_init_2750 : decode cX5_init 2750 = .ok (.iconst 5, 1) := by decide +kernel
theorem dX5_init_2751 : decode cX5_init 2751 = .ok (.if_icmp .gt 43, 3) := by decide +kernel
theorem dX5_init_2754 : decode cX5_init 2754 = .ok (.aload_n 0, 1) := by decide +kernel
theorem dX5_init_2755 : decode cX5_init 2755 = .ok (.getfield 19, 3) := by decide +kernel
theorem dX5_init_2758 : decode cX5_init 2758 = .ok (.bipush 10, 2) := by decide +kernel
theorem dX5_init_2760 : decode cX5_init 2760 = .ok (.iload_n 1, 1) := by decide +kernel
theorem dX5_init_2761 : decode cX5_init 2761 = .ok (.iadd, 1) := by decide +kernel
theorem dX5_init_2762 : decode cX5_init 2762 = .ok (.iaload, 1) := by decide +kernel
theorem dX5_init_2763 : decode cX5_init 2763 = .ok (.iload_n 2, 1) := by decide +kernel
theorem dX5_init_2764 : decode cX5_init 2764 = .ok (.invokestatic 84, 3) := by decide +kernel
theorem dX5_init_2767 : decode cX5_init 2767 = .ok (.iand, 1) := by decide +kernel
theorem dX5_init_2768 : decode cX5_init 2768 = .ok (.ifCond .eq 20, 3) := by decide +kernel
theorem dX5_init_2771 : decode cX5_init 2771 = .ok (.aload_n 0, 1) := by decide +kernel
theorem dX5_init_2772 : decode cX5_init 2772 = .ok (.getfield 31, 3) := by decide +kernel
theorem dX5_init_2775 : decode cX5_init 2775 = .ok (.iload_n 1, 1) := by decide +kernel
theorem dX5_init_2776 : decode cX5_init 2776 = .ok (.dup2, 1) := by decide +kernel
theorem dX5_init_2777 : decode cX5_init 2777 = .ok (.iaload, 1) := by decide +kernel
theorem dX5_init_2778 : decode cX5_init 2778 = .ok (.aload_n 0, 1) := by decide +kernel
theorem dX5_init_2779 : decode cX5_init 2779 = .ok (.getfield 28, 3) := by decide +kernel
theorem dX5_init_2782 : decode cX5_init 2782 = .ok (.iconst 1, 1) := by decide +kernel
theorem dX5_init_2783 : decode cX5_init 2783 = .ok (.iload_n 2, 1) := by decide +kernel
theorem dX5_init_2784 : decode cX5_init 2784 = .ok (.iadd, 1) := by decide +kernel
theorem dX5_init_2785 : decode cX5_init 2785 = .ok (.iaload, 1) := by decide +kernel
theorem dX5_init_2786 : decode cX5_init 2786 = .ok (.ior, 1) := by decide +kernel
theorem dX5_init_2787 : decode cX5_init 2787 = .ok (.iastore, 1) := by decide +kernel
theorem dX5_init_2788 : decode cX5_init 2788 = .ok (.iinc 2 1, 3) := by decide +kernel
theorem dX5_init_2791 : decode cX5_init 2791 = .ok (.goto (-42), 3) := by decide +kernel
theorem dX5_init_2794 : decode cX5_init 2794 = .ok (.iinc 1 1, 3) := by decide +kernel
theorem dX5_init_2797 : decode cX5_init 2797 = .ok (.goto (-68), 3) := by decide +kernel
theorem dX5_init_2800 : decode cX5_init 2800 = .ok (.return_, 1) := by decide +kernel
end
section
/-! THE MINI MACHINE'S TABLES: printed by wip/tools/gen05.py out of the names, the tables' words and the decode rows. Nothing here is typed by hand. -/
abbrev mi_T : Type := List (Nat × List (Nat × Instr × Nat))
abbrev mi_M : Type := mi_T × Nat × Option FieldType × Nat × Nat × Nat × MethodName × ByteArray
def mi_look : mi_T → Nat → Option (Instr × Nat)
  | [], _ => none
  | (b, t) :: r, pc => if pc < b then t.lookup pc else mi_look r pc
def mi_Ts : List Cond := lw_tbl.filter goodWord
def mi_isN : Cond → Bool
  | .fieldLinkNest _ _ _ _ _ _ => true
  | .methodLinkNest _ _ _ _ => true
  | _ => false
def mi_nest : List Cond := tables_1.filter mi_isN
theorem mi_in {w : Cond} (i : Nat) (h : tables_1[i]? = some w) (g : goodWord w = true) : w ∈ mi_Ts := List.mem_filter.mpr ⟨List.mem_append_right _ (List.mem_of_getElem? h), g⟩
theorem mi_inS {w : Cond} (i : Nat) (h : (k2_sels lw_privs)[i]? = some w) (g : goodWord w = true) : w ∈ mi_Ts := List.mem_filter.mpr ⟨List.mem_append_left _ (List.mem_of_getElem? h), g⟩
theorem mi_inN {w : Cond} (i : Nat) (h : tables_1[i]? = some w) (g : mi_isN w = true) : w ∈ mi_nest := List.mem_filter.mpr ⟨List.mem_of_getElem? h, g⟩
theorem mi_Ts_good : ∀ w ∈ mi_Ts, goodWord w = true := fun _ h => (List.mem_filter.mp h).2
theorem mi_Ts_tbl : ∀ w ∈ mi_Ts, w ∈ lw_tbl := fun _ h => (List.mem_filter.mp h).1
def mi_dok (b : ByteArray) (t : mi_T) : Prop := ∀ c ∈ t, ∀ q ∈ c.2, decode b q.1 = .ok q.2
theorem mi_lookup_mem {t : List (Nat × Instr × Nat)} {pc : Nat} {x : Instr × Nat} (h : t.lookup pc = some x) : (pc, x) ∈ t := by
  induction t with
  | nil => cases h
  | cons a r ih =>
    obtain ⟨k, v⟩ := a
    rw [List.lookup_cons] at h
    by_cases e : pc = k
    · subst e
      simp at h
      subst h
      exact List.mem_cons_self
    · have hb : (pc == k) = false := by simpa using e
      rw [hb] at h
      exact List.mem_cons_of_mem _ (ih h)
theorem mi_look_ok {b : ByteArray} {t : mi_T} (hd : mi_dok b t) {pc : Nat} {x : Instr × Nat} (h : mi_look t pc = some x) : decode b pc = .ok x := by
  induction t with
  | nil => cases h
  | cons a r ih =>
    obtain ⟨k, v⟩ := a
    rw [mi_look] at h
    split at h
    · have hm : (pc, x) ∈ v := mi_lookup_mem h
      have hq := hd (k, v) List.mem_cons_self (pc, x) hm
      dsimp only at hq
      exact hq
    · have hd' : mi_dok b r := fun c hc => hd c (List.mem_cons_of_mem _ hc)
      exact ih hd' h
def mi_cn : Nat → String := fun c => match c with
  | 0 => RX0
  | 1 => RX1
  | 2 => RX2
  | 3 => RX3
  | 4 => RX4
  | _ => RX5
def mi_t0_0 : List (Nat × Instr × Nat) := [(0, .aload_n 0, 1), (1, .invokespecial 3, 3), (4, .aload_n 0, 1), (5, .bipush 64, 2), (7, .newarray .int, 2), (9, .putfield 11, 3), (12, .aload_n 0, 1), (13, .sipush 216, 3), (16, .newarray .int, 2), (18, .putfield 17, 3), (21, .iconst 0, 1), (22, .istore_n 1, 1), (23, .iload_n 1, 1), (24, .aload_n 0, 1), (25, .getfield 17, 3), (28, .arraylength, 1), (29, .if_icmp .ge 26, 3), (32, .aload_n 0, 1), (33, .getfield 17, 3), (36, .iload_n 1, 1), (37, .iload_n 1, 1), (38, .bipush 12, 2), (40, .idiv, 1), (41, .iload_n 1, 1), (42, .bipush 12, 2), (44, .irem, 1), (45, .invokestatic 20, 3), (48, .iastore, 1), (49, .iinc 1 1, 3), (52, .goto (-29), 3), (55, .return_, 1)]
theorem mi_k0_0 : ∀ q ∈ mi_t0_0, decode cX0_init q.1 = .ok q.2 := List.forall_mem_cons.mpr ⟨dX0_init_0, List.forall_mem_cons.mpr ⟨dX0_init_1, List.forall_mem_cons.mpr ⟨dX0_init_4, List.forall_mem_cons.mpr ⟨dX0_init_5, List.forall_mem_cons.mpr ⟨dX0_init_7, List.forall_mem_cons.mpr ⟨dX0_init_9, List.forall_mem_cons.mpr ⟨dX0_init_12, List.forall_mem_cons.mpr ⟨dX0_init_13, List.forall_mem_cons.mpr ⟨dX0_init_16, List.forall_mem_cons.mpr ⟨dX0_init_18, List.forall_mem_cons.mpr ⟨dX0_init_21, List.forall_mem_cons.mpr ⟨dX0_init_22, List.forall_mem_cons.mpr ⟨dX0_init_23, List.forall_mem_cons.mpr ⟨dX0_init_24, List.forall_mem_cons.mpr ⟨dX0_init_25, List.forall_mem_cons.mpr ⟨dX0_init_28, List.forall_mem_cons.mpr ⟨dX0_init_29, List.forall_mem_cons.mpr ⟨dX0_init_32, List.forall_mem_cons.mpr ⟨dX0_init_33, List.forall_mem_cons.mpr ⟨dX0_init_36, List.forall_mem_cons.mpr ⟨dX0_init_37, List.forall_mem_cons.mpr ⟨dX0_init_38, List.forall_mem_cons.mpr ⟨dX0_init_40, List.forall_mem_cons.mpr ⟨dX0_init_41, List.forall_mem_cons.mpr ⟨dX0_init_42, List.forall_mem_cons.mpr ⟨dX0_init_44, List.forall_mem_cons.mpr ⟨dX0_init_45, List.forall_mem_cons.mpr ⟨dX0_init_48, List.forall_mem_cons.mpr ⟨dX0_init_49, List.forall_mem_cons.mpr ⟨dX0_init_52, List.forall_mem_cons.mpr ⟨dX0_init_55, fun _ h => absurd h List.not_mem_nil⟩⟩⟩⟩⟩⟩⟩⟩⟩⟩⟩⟩⟩⟩⟩⟩⟩⟩⟩⟩⟩⟩⟩⟩⟩⟩⟩⟩⟩⟩⟩
def mi_t0 : mi_T := [(1000000, mi_t0_0)]
theorem mi_k0 : mi_dok cX0_init mi_t0 := List.forall_mem_cons.mpr ⟨mi_k0_0, fun _ h => absurd h List.not_mem_nil⟩
def mi_m0 : mi_M := (mi_t0, 0, none, 2, 2, 0, yX0_init, cX0_init)
def mi_t1_0 : List (Nat × Instr × Nat) := [(0, .aload_n 0, 1), (1, .iconst 0, 1), (2, .putfield 24, 3), (5, .return_, 1)]
theorem mi_k1_0 : ∀ q ∈ mi_t1_0, decode cX0_forgetChain q.1 = .ok q.2 := List.forall_mem_cons.mpr ⟨dX0_forgetChain_0, List.forall_mem_cons.mpr ⟨dX0_forgetChain_1, List.forall_mem_cons.mpr ⟨dX0_forgetChain_2, List.forall_mem_cons.mpr ⟨dX0_forgetChain_5, fun _ h => absurd h List.not_mem_nil⟩⟩⟩⟩
def mi_t1 : mi_T := [(1000000, mi_t1_0)]
theorem mi_k1 : mi_dok cX0_forgetChain mi_t1 := List.forall_mem_cons.mpr ⟨mi_k1_0, fun _ h => absurd h List.not_mem_nil⟩
def mi_m1 : mi_M := (mi_t1, 0, none, 1, 1, 0, yX0_forgetChain, cX0_forgetChain)
def mi_t2_0 : List (Nat × Instr × Nat) := [(0, .iload_n 1, 1), (1, .ifCond .lt 26, 3), (4, .iload_n 1, 1), (5, .aload_n 0, 1), (6, .getfield 24, 3), (9, .if_icmp .ge 18, 3), (12, .iload_n 1, 1), (13, .bipush 64, 2), (15, .if_icmp .ge 12, 3), (18, .aload_n 0, 1), (19, .getfield 11, 3), (22, .iload_n 1, 1), (23, .iaload, 1), (24, .goto 4, 3), (27, .iconst (-1), 1), (28, .ireturn, 1)]
theorem mi_k2_0 : ∀ q ∈ mi_t2_0, decode cX0_keptAt q.1 = .ok q.2 := List.forall_mem_cons.mpr ⟨dX0_keptAt_0, List.forall_mem_cons.mpr ⟨dX0_keptAt_1, List.forall_mem_cons.mpr ⟨dX0_keptAt_4, List.forall_mem_cons.mpr ⟨dX0_keptAt_5, List.forall_mem_cons.mpr ⟨dX0_keptAt_6, List.forall_mem_cons.mpr ⟨dX0_keptAt_9, List.forall_mem_cons.mpr ⟨dX0_keptAt_12, List.forall_mem_cons.mpr ⟨dX0_keptAt_13, List.forall_mem_cons.mpr ⟨dX0_keptAt_15, List.forall_mem_cons.mpr ⟨dX0_keptAt_18, List.forall_mem_cons.mpr ⟨dX0_keptAt_19, List.forall_mem_cons.mpr ⟨dX0_keptAt_22, List.forall_mem_cons.mpr ⟨dX0_keptAt_23, List.forall_mem_cons.mpr ⟨dX0_keptAt_24, List.forall_mem_cons.mpr ⟨dX0_keptAt_27, List.forall_mem_cons.mpr ⟨dX0_keptAt_28, fun _ h => absurd h List.not_mem_nil⟩⟩⟩⟩⟩⟩⟩⟩⟩⟩⟩⟩⟩⟩⟩⟩
def mi_t2 : mi_T := [(1000000, mi_t2_0)]
theorem mi_k2 : mi_dok cX0_keptAt mi_t2 := List.forall_mem_cons.mpr ⟨mi_k2_0, fun _ h => absurd h List.not_mem_nil⟩
def mi_m2 : mi_M := (mi_t2, 0, (some .int), 2, 1, 1, yX0_keptAt, cX0_keptAt)
def mi_t3_0 : List (Nat × Instr × Nat) := [(0, .iload_n 1, 1), (1, .ifCond .lt 19, 3), (4, .iload_n 1, 1), (5, .bipush 18, 2), (7, .if_icmp .ge 13, 3), (10, .iload_n 2, 1), (11, .ifCond .lt 9, 3), (14, .iload_n 2, 1), (15, .bipush 12, 2), (17, .if_icmp .lt 5, 3), (20, .iconst 0, 1), (21, .ireturn, 1), (22, .aload_n 0, 1), (23, .getfield 17, 3), (26, .iload_n 1, 1), (27, .bipush 12, 2), (29, .imul, 1), (30, .iload_n 2, 1), (31, .iadd, 1), (32, .iaload, 1), (33, .ireturn, 1)]
theorem mi_k3_0 : ∀ q ∈ mi_t3_0, decode cX0_selected q.1 = .ok q.2 := List.forall_mem_cons.mpr ⟨dX0_selected_0, List.forall_mem_cons.mpr ⟨dX0_selected_1, List.forall_mem_cons.mpr ⟨dX0_selected_4, List.forall_mem_cons.mpr ⟨dX0_selected_5, List.forall_mem_cons.mpr ⟨dX0_selected_7, List.forall_mem_cons.mpr ⟨dX0_selected_10, List.forall_mem_cons.mpr ⟨dX0_selected_11, List.forall_mem_cons.mpr ⟨dX0_selected_14, List.forall_mem_cons.mpr ⟨dX0_selected_15, List.forall_mem_cons.mpr ⟨dX0_selected_17, List.forall_mem_cons.mpr ⟨dX0_selected_20, List.forall_mem_cons.mpr ⟨dX0_selected_21, List.forall_mem_cons.mpr ⟨dX0_selected_22, List.forall_mem_cons.mpr ⟨dX0_selected_23, List.forall_mem_cons.mpr ⟨dX0_selected_26, List.forall_mem_cons.mpr ⟨dX0_selected_27, List.forall_mem_cons.mpr ⟨dX0_selected_29, List.forall_mem_cons.mpr ⟨dX0_selected_30, List.forall_mem_cons.mpr ⟨dX0_selected_31, List.forall_mem_cons.mpr ⟨dX0_selected_32, List.forall_mem_cons.mpr ⟨dX0_selected_33, fun _ h => absurd h List.not_mem_nil⟩⟩⟩⟩⟩⟩⟩⟩⟩⟩⟩⟩⟩⟩⟩⟩⟩⟩⟩⟩⟩
def mi_t3 : mi_T := [(1000000, mi_t3_0)]
theorem mi_k3 : mi_dok cX0_selected mi_t3 := List.forall_mem_cons.mpr ⟨mi_k3_0, fun _ h => absurd h List.not_mem_nil⟩
def mi_m3 : mi_M := (mi_t3, 0, (some .int), 3, 1, 2, yX0_selected, cX0_selected)
def mi_t4_0 : List (Nat × Instr × Nat) := [(0, .aload_n 0, 1), (1, .aload_n 1, 1), (2, .aload_n 0, 1), (3, .aload_n 1, 1), (4, .getfield 28, 3), (7, .iload_n 2, 1), (8, .invokevirtual 33, 3), (11, .iload_n 3, 1), (12, .iload 4, 2), (14, .invokevirtual 34, 3), (17, .ireturn, 1)]
theorem mi_k4_0 : ∀ q ∈ mi_t4_0, decode cX0_answer q.1 = .ok q.2 := List.forall_mem_cons.mpr ⟨dX0_answer_0, List.forall_mem_cons.mpr ⟨dX0_answer_1, List.forall_mem_cons.mpr ⟨dX0_answer_2, List.forall_mem_cons.mpr ⟨dX0_answer_3, List.forall_mem_cons.mpr ⟨dX0_answer_4, List.forall_mem_cons.mpr ⟨dX0_answer_7, List.forall_mem_cons.mpr ⟨dX0_answer_8, List.forall_mem_cons.mpr ⟨dX0_answer_11, List.forall_mem_cons.mpr ⟨dX0_answer_12, List.forall_mem_cons.mpr ⟨dX0_answer_14, List.forall_mem_cons.mpr ⟨dX0_answer_17, fun _ h => absurd h List.not_mem_nil⟩⟩⟩⟩⟩⟩⟩⟩⟩⟩⟩
def mi_t4 : mi_T := [(1000000, mi_t4_0)]
theorem mi_k4 : mi_dok cX0_answer mi_t4 := List.forall_mem_cons.mpr ⟨mi_k4_0, fun _ h => absurd h List.not_mem_nil⟩
def mi_m4 : mi_M := (mi_t4, 0, (some .int), 5, 1, 4, yX0_answer, cX0_answer)
def mi_t5_0 : List (Nat × Instr × Nat) := [(0, .aload_n 0, 1), (1, .aload_n 2, 1), (2, .aload_n 0, 1), (3, .iload_n 1, 1), (4, .invokestatic 38, 3), (7, .iload_n 3, 1), (8, .invokevirtual 33, 3), (11, .iload 4, 2), (13, .iload 5, 2), (15, .invokevirtual 34, 3), (18, .ireturn, 1)]
theorem mi_k5_0 : ∀ q ∈ mi_t5_0, decode cX0_above q.1 = .ok q.2 := List.forall_mem_cons.mpr ⟨dX0_above_0, List.forall_mem_cons.mpr ⟨dX0_above_1, List.forall_mem_cons.mpr ⟨dX0_above_2, List.forall_mem_cons.mpr ⟨dX0_above_3, List.forall_mem_cons.mpr ⟨dX0_above_4, List.forall_mem_cons.mpr ⟨dX0_above_7, List.forall_mem_cons.mpr ⟨dX0_above_8, List.forall_mem_cons.mpr ⟨dX0_above_11, List.forall_mem_cons.mpr ⟨dX0_above_13, List.forall_mem_cons.mpr ⟨dX0_above_15, List.forall_mem_cons.mpr ⟨dX0_above_18, fun _ h => absurd h List.not_mem_nil⟩⟩⟩⟩⟩⟩⟩⟩⟩⟩⟩
def mi_t5 : mi_T := [(1000000, mi_t5_0)]
theorem mi_k5 : mi_dok cX0_above mi_t5 := List.forall_mem_cons.mpr ⟨mi_k5_0, fun _ h => absurd h List.not_mem_nil⟩
def mi_m5 : mi_M := (mi_t5, 0, (some .int), 6, 1, 5, yX0_above, cX0_above)
def mi_t6_0 : List (Nat × Instr × Nat) := [(0, .aload_n 0, 1), (1, .aload_n 2, 1), (2, .aload_n 0, 1), (3, .iload_n 1, 1), (4, .iload_n 3, 1), (5, .invokevirtual 33, 3), (8, .iload 4, 2), (10, .iload 5, 2), (12, .invokevirtual 34, 3), (15, .ireturn, 1)]
theorem mi_k6_0 : ∀ q ∈ mi_t6_0, decode cX0_by q.1 = .ok q.2 := List.forall_mem_cons.mpr ⟨dX0_by_0, List.forall_mem_cons.mpr ⟨dX0_by_1, List.forall_mem_cons.mpr ⟨dX0_by_2, List.forall_mem_cons.mpr ⟨dX0_by_3, List.forall_mem_cons.mpr ⟨dX0_by_4, List.forall_mem_cons.mpr ⟨dX0_by_5, List.forall_mem_cons.mpr ⟨dX0_by_8, List.forall_mem_cons.mpr ⟨dX0_by_10, List.forall_mem_cons.mpr ⟨dX0_by_12, List.forall_mem_cons.mpr ⟨dX0_by_15, fun _ h => absurd h List.not_mem_nil⟩⟩⟩⟩⟩⟩⟩⟩⟩⟩
def mi_t6 : mi_T := [(1000000, mi_t6_0)]
theorem mi_k6 : mi_dok cX0_by mi_t6 := List.forall_mem_cons.mpr ⟨mi_k6_0, fun _ h => absurd h List.not_mem_nil⟩
def mi_m6 : mi_M := (mi_t6, 0, (some .int), 6, 1, 5, yX0_by, cX0_by)
def mi_t7_0 : List (Nat × Instr × Nat) := [(0, .iload_n 2, 1), (1, .ifCond .eq 10, 3), (4, .iload 4, 2), (6, .bipush 40, 2), (8, .if_icmp .le 5, 3), (11, .iconst 0, 1), (12, .ireturn, 1), (13, .aload_n 0, 1), (14, .iload_n 2, 1), (15, .invokevirtual 42, 3), (18, .iload_n 2, 1), (19, .bipush 60, 2), (21, .if_icmp .ge 15, 3), (24, .aload_n 0, 1), (25, .aload_n 1, 1), (26, .iload_n 2, 1), (27, .iload_n 3, 1), (28, .iload 4, 2), (30, .iconst 1, 1), (31, .iadd, 1), (32, .invokevirtual 46, 3), (35, .ireturn, 1), (36, .iload_n 2, 1), (37, .bipush 100, 2), (39, .if_icmp .ge 15, 3), (42, .aload_n 0, 1), (43, .aload_n 1, 1), (44, .iload_n 2, 1), (45, .iload_n 3, 1), (46, .iload 4, 2), (48, .iconst 1, 1), (49, .iadd, 1), (50, .invokevirtual 49, 3), (53, .ireturn, 1), (54, .iload_n 2, 1), (55, .sipush 140, 3), (58, .if_icmp .ge 15, 3), (61, .aload_n 0, 1), (62, .aload_n 1, 1), (63, .iload_n 2, 1)]
theorem mi_k7_0 : ∀ q ∈ mi_t7_0, decode cX0_run q.1 = .ok q.2 := List.forall_mem_cons.mpr ⟨dX0_run_0, List.forall_mem_cons.mpr ⟨dX0_run_1, List.forall_mem_cons.mpr ⟨dX0_run_4, List.forall_mem_cons.mpr ⟨dX0_run_6, List.forall_mem_cons.mpr ⟨dX0_run_8, List.forall_mem_cons.mpr ⟨dX0_run_11, List.forall_mem_cons.mpr ⟨dX0_run_12, List.forall_mem_cons.mpr ⟨dX0_run_13, List.forall_mem_cons.mpr ⟨dX0_run_14, List.forall_mem_cons.mpr ⟨dX0_run_15, List.forall_mem_cons.mpr ⟨dX0_run_18, List.forall_mem_cons.mpr ⟨dX0_run_19, List.forall_mem_cons.mpr ⟨dX0_run_21, List.forall_mem_cons.mpr ⟨dX0_run_24, List.forall_mem_cons.mpr ⟨dX0_run_25, List.forall_mem_cons.mpr ⟨dX0_run_26, List.forall_mem_cons.mpr ⟨dX0_run_27, List.forall_mem_cons.mpr ⟨dX0_run_28, List.forall_mem_cons.mpr ⟨dX0_run_30, List.forall_mem_cons.mpr ⟨dX0_run_31, List.forall_mem_cons.mpr ⟨dX0_run_32, List.forall_mem_cons.mpr ⟨dX0_run_35, List.forall_mem_cons.mpr ⟨dX0_run_36, List.forall_mem_cons.mpr ⟨dX0_run_37, List.forall_mem_cons.mpr ⟨dX0_run_39, List.forall_mem_cons.mpr ⟨dX0_run_42, List.forall_mem_cons.mpr ⟨dX0_run_43, List.forall_mem_cons.mpr ⟨dX0_run_44, List.forall_mem_cons.mpr ⟨dX0_run_45, List.forall_mem_cons.mpr ⟨dX0_run_46, List.forall_mem_cons.mpr ⟨dX0_run_48, List.forall_mem_cons.mpr ⟨dX0_run_49, List.forall_mem_cons.mpr ⟨dX0_run_50, List.forall_mem_cons.mpr ⟨dX0_run_53, List.forall_mem_cons.mpr ⟨dX0_run_54, List.forall_mem_cons.mpr ⟨dX0_run_55, List.forall_mem_cons.mpr ⟨dX0_run_58, List.forall_mem_cons.mpr ⟨dX0_run_61, List.forall_mem_cons.mpr ⟨dX0_run_62, List.forall_mem_cons.mpr ⟨dX0_run_63, fun _ h => absurd h List.not_mem_nil⟩⟩⟩⟩⟩⟩⟩⟩⟩⟩⟩⟩⟩⟩⟩⟩⟩⟩⟩⟩⟩⟩⟩⟩⟩⟩⟩⟩⟩⟩⟩⟩⟩⟩⟩⟩⟩⟩⟩⟩
def mi_t7_1 : List (Nat × Instr × Nat) := [(64, .iload_n 3, 1), (65, .iload 4, 2), (67, .iconst 1, 1), (68, .iadd, 1), (69, .invokevirtual 52, 3), (72, .ireturn, 1), (73, .iload_n 2, 1), (74, .sipush 180, 3), (77, .if_icmp .ge 17, 3), (80, .aload_n 0, 1), (81, .aload_n 1, 1), (82, .iload_n 2, 1), (83, .iload_n 3, 1), (84, .iload 4, 2), (86, .iconst 1, 1), (87, .iadd, 1), (88, .invokevirtual 55, 3), (91, .goto 14, 3), (94, .aload_n 0, 1), (95, .aload_n 1, 1), (96, .iload_n 2, 1), (97, .iload_n 3, 1), (98, .iload 4, 2), (100, .iconst 1, 1), (101, .iadd, 1), (102, .invokevirtual 58, 3), (105, .ireturn, 1)]
theorem mi_k7_1 : ∀ q ∈ mi_t7_1, decode cX0_run q.1 = .ok q.2 := List.forall_mem_cons.mpr ⟨dX0_run_64, List.forall_mem_cons.mpr ⟨dX0_run_65, List.forall_mem_cons.mpr ⟨dX0_run_67, List.forall_mem_cons.mpr ⟨dX0_run_68, List.forall_mem_cons.mpr ⟨dX0_run_69, List.forall_mem_cons.mpr ⟨dX0_run_72, List.forall_mem_cons.mpr ⟨dX0_run_73, List.forall_mem_cons.mpr ⟨dX0_run_74, List.forall_mem_cons.mpr ⟨dX0_run_77, List.forall_mem_cons.mpr ⟨dX0_run_80, List.forall_mem_cons.mpr ⟨dX0_run_81, List.forall_mem_cons.mpr ⟨dX0_run_82, List.forall_mem_cons.mpr ⟨dX0_run_83, List.forall_mem_cons.mpr ⟨dX0_run_84, List.forall_mem_cons.mpr ⟨dX0_run_86, List.forall_mem_cons.mpr ⟨dX0_run_87, List.forall_mem_cons.mpr ⟨dX0_run_88, List.forall_mem_cons.mpr ⟨dX0_run_91, List.forall_mem_cons.mpr ⟨dX0_run_94, List.forall_mem_cons.mpr ⟨dX0_run_95, List.forall_mem_cons.mpr ⟨dX0_run_96, List.forall_mem_cons.mpr ⟨dX0_run_97, List.forall_mem_cons.mpr ⟨dX0_run_98, List.forall_mem_cons.mpr ⟨dX0_run_100, List.forall_mem_cons.mpr ⟨dX0_run_101, List.forall_mem_cons.mpr ⟨dX0_run_102, List.forall_mem_cons.mpr ⟨dX0_run_105, fun _ h => absurd h List.not_mem_nil⟩⟩⟩⟩⟩⟩⟩⟩⟩⟩⟩⟩⟩⟩⟩⟩⟩⟩⟩⟩⟩⟩⟩⟩⟩⟩⟩
def mi_t7 : mi_T := [(64, mi_t7_0), (1000000, mi_t7_1)]
theorem mi_k7 : mi_dok cX0_run mi_t7 := List.forall_mem_cons.mpr ⟨mi_k7_0, List.forall_mem_cons.mpr ⟨mi_k7_1, fun _ h => absurd h List.not_mem_nil⟩⟩
def mi_m7 : mi_M := (mi_t7, 0, (some .int), 5, 1, 4, yX0_run, cX0_run)
def mi_t8_0 : List (Nat × Instr × Nat) := [(0, .aload_n 0, 1), (1, .getfield 24, 3), (4, .ifCond .lt 22, 3), (7, .aload_n 0, 1), (8, .getfield 24, 3), (11, .bipush 64, 2), (13, .if_icmp .ge 13, 3), (16, .aload_n 0, 1), (17, .getfield 11, 3), (20, .aload_n 0, 1), (21, .getfield 24, 3), (24, .iload_n 1, 1), (25, .iastore, 1), (26, .aload_n 0, 1), (27, .dup, 1), (28, .getfield 24, 3), (31, .iconst 1, 1), (32, .iadd, 1), (33, .putfield 24, 3), (36, .return_, 1)]
theorem mi_k8_0 : ∀ q ∈ mi_t8_0, decode cX0_begin q.1 = .ok q.2 := List.forall_mem_cons.mpr ⟨dX0_begin_0, List.forall_mem_cons.mpr ⟨dX0_begin_1, List.forall_mem_cons.mpr ⟨dX0_begin_4, List.forall_mem_cons.mpr ⟨dX0_begin_7, List.forall_mem_cons.mpr ⟨dX0_begin_8, List.forall_mem_cons.mpr ⟨dX0_begin_11, List.forall_mem_cons.mpr ⟨dX0_begin_13, List.forall_mem_cons.mpr ⟨dX0_begin_16, List.forall_mem_cons.mpr ⟨dX0_begin_17, List.forall_mem_cons.mpr ⟨dX0_begin_20, List.forall_mem_cons.mpr ⟨dX0_begin_21, List.forall_mem_cons.mpr ⟨dX0_begin_24, List.forall_mem_cons.mpr ⟨dX0_begin_25, List.forall_mem_cons.mpr ⟨dX0_begin_26, List.forall_mem_cons.mpr ⟨dX0_begin_27, List.forall_mem_cons.mpr ⟨dX0_begin_28, List.forall_mem_cons.mpr ⟨dX0_begin_31, List.forall_mem_cons.mpr ⟨dX0_begin_32, List.forall_mem_cons.mpr ⟨dX0_begin_33, List.forall_mem_cons.mpr ⟨dX0_begin_36, fun _ h => absurd h List.not_mem_nil⟩⟩⟩⟩⟩⟩⟩⟩⟩⟩⟩⟩⟩⟩⟩⟩⟩⟩⟩⟩
def mi_t8 : mi_T := [(1000000, mi_t8_0)]
theorem mi_k8 : mi_dok cX0_begin mi_t8 := List.forall_mem_cons.mpr ⟨mi_k8_0, fun _ h => absurd h List.not_mem_nil⟩
def mi_m8 : mi_M := (mi_t8, 0, none, 2, 1, 1, yX0_begin, cX0_begin)
def mi_t9_0 : List (Nat × Instr × Nat) := [(0, .iload_n 2, 1), (1, .lookupswitch 281 #[(10, 91), (11, 103), (20, 127), (21, 149), (30, 162), (40, 188), (41, 200), (50, 224), (51, 248), (52, 269)], 91), (92, .aload_n 0, 1), (93, .aload_n 1, 1), (94, .iconst 0, 1), (95, .iload_n 3, 1), (96, .iload 4, 2), (98, .invokevirtual 61, 3), (101, .iconst 1, 1), (102, .iadd, 1), (103, .ireturn, 1), (104, .aload_n 0, 1), (105, .aload_n 1, 1), (106, .iconst 1, 1), (107, .iload_n 3, 1), (108, .iload 4, 2), (110, .invokevirtual 61, 3), (113, .iconst 3, 1), (114, .imul, 1), (115, .aload_n 0, 1), (116, .aload_n 1, 1), (117, .iconst 0, 1), (118, .iload_n 3, 1), (119, .iconst 1, 1), (120, .iadd, 1), (121, .iload 4, 2), (123, .invokevirtual 61, 3), (126, .isub, 1), (127, .ireturn, 1), (128, .aload_n 0, 1), (129, .aload_n 1, 1), (130, .iconst 3, 1), (131, .iload_n 3, 1), (132, .iload 4, 2), (134, .invokevirtual 61, 3), (137, .aload_n 0, 1), (138, .aload_n 1, 1), (139, .iconst 3, 1), (140, .iload_n 3, 1), (141, .iconst 1, 1)]
theorem mi_k9_0 : ∀ q ∈ mi_t9_0, decode cX0_runOfInterface q.1 = .ok q.2 := List.forall_mem_cons.mpr ⟨dX0_runOfInterface_0, List.forall_mem_cons.mpr ⟨dX0_runOfInterface_1, List.forall_mem_cons.mpr ⟨dX0_runOfInterface_92, List.forall_mem_cons.mpr ⟨dX0_runOfInterface_93, List.forall_mem_cons.mpr ⟨dX0_runOfInterface_94, List.forall_mem_cons.mpr ⟨dX0_runOfInterface_95, List.forall_mem_cons.mpr ⟨dX0_runOfInterface_96, List.forall_mem_cons.mpr ⟨dX0_runOfInterface_98, List.forall_mem_cons.mpr ⟨dX0_runOfInterface_101, List.forall_mem_cons.mpr ⟨dX0_runOfInterface_102, List.forall_mem_cons.mpr ⟨dX0_runOfInterface_103, List.forall_mem_cons.mpr ⟨dX0_runOfInterface_104, List.forall_mem_cons.mpr ⟨dX0_runOfInterface_105, List.forall_mem_cons.mpr ⟨dX0_runOfInterface_106, List.forall_mem_cons.mpr ⟨dX0_runOfInterface_107, List.forall_mem_cons.mpr ⟨dX0_runOfInterface_108, List.forall_mem_cons.mpr ⟨dX0_runOfInterface_110, List.forall_mem_cons.mpr ⟨dX0_runOfInterface_113, List.forall_mem_cons.mpr ⟨dX0_runOfInterface_114, List.forall_mem_cons.mpr ⟨dX0_runOfInterface_115, List.forall_mem_cons.mpr ⟨dX0_runOfInterface_116, List.forall_mem_cons.mpr ⟨dX0_runOfInterface_117, List.forall_mem_cons.mpr ⟨dX0_runOfInterface_118, List.forall_mem_cons.mpr ⟨dX0_runOfInterface_119, List.forall_mem_cons.mpr ⟨dX0_runOfInterface_120, List.forall_mem_cons.mpr ⟨dX0_runOfInterface_121, List.forall_mem_cons.mpr ⟨dX0_runOfInterface_123, List.forall_mem_cons.mpr ⟨dX0_runOfInterface_126, List.forall_mem_cons.mpr ⟨dX0_runOfInterface_127, List.forall_mem_cons.mpr ⟨dX0_runOfInterface_128, List.forall_mem_cons.mpr ⟨dX0_runOfInterface_129, List.forall_mem_cons.mpr ⟨dX0_runOfInterface_130, List.forall_mem_cons.mpr ⟨dX0_runOfInterface_131, List.forall_mem_cons.mpr ⟨dX0_runOfInterface_132, List.forall_mem_cons.mpr ⟨dX0_runOfInterface_134, List.forall_mem_cons.mpr ⟨dX0_runOfInterface_137, List.forall_mem_cons.mpr ⟨dX0_runOfInterface_138, List.forall_mem_cons.mpr ⟨dX0_runOfInterface_139, List.forall_mem_cons.mpr ⟨dX0_runOfInterface_140, List.forall_mem_cons.mpr ⟨dX0_runOfInterface_141, fun _ h => absurd h List.not_mem_nil⟩⟩⟩⟩⟩⟩⟩⟩⟩⟩⟩⟩⟩⟩⟩⟩⟩⟩⟩⟩⟩⟩⟩⟩⟩⟩⟩⟩⟩⟩⟩⟩⟩⟩⟩⟩⟩⟩⟩⟩
def mi_t9_1 : List (Nat × Instr × Nat) := [(142, .iadd, 1), (143, .iload 4, 2), (145, .invokevirtual 61, 3), (148, .iadd, 1), (149, .ireturn, 1), (150, .aload_n 0, 1), (151, .aload_n 1, 1), (152, .iconst 4, 1), (153, .iload_n 3, 1), (154, .iload 4, 2), (156, .invokevirtual 61, 3), (159, .bipush 85, 2), (161, .ixor, 1), (162, .ireturn, 1), (163, .aload_n 0, 1), (164, .bipush 13, 2), (166, .aload_n 1, 1), (167, .iconst 2, 1), (168, .iload_n 3, 1), (169, .iload 4, 2), (171, .invokevirtual 64, 3), (174, .aload_n 0, 1), (175, .bipush 14, 2), (177, .aload_n 1, 1), (178, .iconst 2, 1), (179, .iload_n 3, 1), (180, .iconst 1, 1), (181, .iadd, 1), (182, .iload 4, 2), (184, .invokevirtual 64, 3), (187, .iadd, 1), (188, .ireturn, 1), (189, .aload_n 0, 1), (190, .aload_n 1, 1), (191, .iconst 5, 1), (192, .iload_n 3, 1), (193, .iload 4, 2), (195, .invokevirtual 61, 3), (198, .iload_n 3, 1), (199, .iadd, 1)]
theorem mi_k9_1 : ∀ q ∈ mi_t9_1, decode cX0_runOfInterface q.1 = .ok q.2 := List.forall_mem_cons.mpr ⟨dX0_runOfInterface_142, List.forall_mem_cons.mpr ⟨dX0_runOfInterface_143, List.forall_mem_cons.mpr ⟨dX0_runOfInterface_145, List.forall_mem_cons.mpr ⟨dX0_runOfInterface_148, List.forall_mem_cons.mpr ⟨dX0_runOfInterface_149, List.forall_mem_cons.mpr ⟨dX0_runOfInterface_150, List.forall_mem_cons.mpr ⟨dX0_runOfInterface_151, List.forall_mem_cons.mpr ⟨dX0_runOfInterface_152, List.forall_mem_cons.mpr ⟨dX0_runOfInterface_153, List.forall_mem_cons.mpr ⟨dX0_runOfInterface_154, List.forall_mem_cons.mpr ⟨dX0_runOfInterface_156, List.forall_mem_cons.mpr ⟨dX0_runOfInterface_159, List.forall_mem_cons.mpr ⟨dX0_runOfInterface_161, List.forall_mem_cons.mpr ⟨dX0_runOfInterface_162, List.forall_mem_cons.mpr ⟨dX0_runOfInterface_163, List.forall_mem_cons.mpr ⟨dX0_runOfInterface_164, List.forall_mem_cons.mpr ⟨dX0_runOfInterface_166, List.forall_mem_cons.mpr ⟨dX0_runOfInterface_167, List.forall_mem_cons.mpr ⟨dX0_runOfInterface_168, List.forall_mem_cons.mpr ⟨dX0_runOfInterface_169, List.forall_mem_cons.mpr ⟨dX0_runOfInterface_171, List.forall_mem_cons.mpr ⟨dX0_runOfInterface_174, List.forall_mem_cons.mpr ⟨dX0_runOfInterface_175, List.forall_mem_cons.mpr ⟨dX0_runOfInterface_177, List.forall_mem_cons.mpr ⟨dX0_runOfInterface_178, List.forall_mem_cons.mpr ⟨dX0_runOfInterface_179, List.forall_mem_cons.mpr ⟨dX0_runOfInterface_180, List.forall_mem_cons.mpr ⟨dX0_runOfInterface_181, List.forall_mem_cons.mpr ⟨dX0_runOfInterface_182, List.forall_mem_cons.mpr ⟨dX0_runOfInterface_184, List.forall_mem_cons.mpr ⟨dX0_runOfInterface_187, List.forall_mem_cons.mpr ⟨dX0_runOfInterface_188, List.forall_mem_cons.mpr ⟨dX0_runOfInterface_189, List.forall_mem_cons.mpr ⟨dX0_runOfInterface_190, List.forall_mem_cons.mpr ⟨dX0_runOfInterface_191, List.forall_mem_cons.mpr ⟨dX0_runOfInterface_192, List.forall_mem_cons.mpr ⟨dX0_runOfInterface_193, List.forall_mem_cons.mpr ⟨dX0_runOfInterface_195, List.forall_mem_cons.mpr ⟨dX0_runOfInterface_198, List.forall_mem_cons.mpr ⟨dX0_runOfInterface_199, fun _ h => absurd h List.not_mem_nil⟩⟩⟩⟩⟩⟩⟩⟩⟩⟩⟩⟩⟩⟩⟩⟩⟩⟩⟩⟩⟩⟩⟩⟩⟩⟩⟩⟩⟩⟩⟩⟩⟩⟩⟩⟩⟩⟩⟩⟩
def mi_t9_2 : List (Nat × Instr × Nat) := [(200, .ireturn, 1), (201, .aload_n 0, 1), (202, .aload_n 1, 1), (203, .bipush 6, 2), (205, .iload_n 3, 1), (206, .iload 4, 2), (208, .invokevirtual 61, 3), (211, .iconst 2, 1), (212, .imul, 1), (213, .aload_n 0, 1), (214, .aload_n 1, 1), (215, .bipush 6, 2), (217, .iconst 1, 1), (218, .iload 4, 2), (220, .invokevirtual 61, 3), (223, .iadd, 1), (224, .ireturn, 1), (225, .aload_n 0, 1), (226, .bipush 16, 2), (228, .aload_n 1, 1), (229, .bipush 7, 2), (231, .iload_n 3, 1), (232, .iload 4, 2), (234, .invokevirtual 64, 3), (237, .aload_n 0, 1), (238, .aload_n 1, 1), (239, .bipush 8, 2), (241, .iload_n 3, 1), (242, .iload 4, 2), (244, .invokevirtual 61, 3), (247, .isub, 1), (248, .ireturn, 1), (249, .aload_n 0, 1), (250, .aload_n 1, 1), (251, .bipush 52, 2), (253, .iload_n 3, 1), (254, .iload 4, 2), (256, .invokevirtual 34, 3), (259, .aload_n 0, 1), (260, .aload_n 1, 1)]
theorem mi_k9_2 : ∀ q ∈ mi_t9_2, decode cX0_runOfInterface q.1 = .ok q.2 := List.forall_mem_cons.mpr ⟨dX0_runOfInterface_200, List.forall_mem_cons.mpr ⟨dX0_runOfInterface_201, List.forall_mem_cons.mpr ⟨dX0_runOfInterface_202, List.forall_mem_cons.mpr ⟨dX0_runOfInterface_203, List.forall_mem_cons.mpr ⟨dX0_runOfInterface_205, List.forall_mem_cons.mpr ⟨dX0_runOfInterface_206, List.forall_mem_cons.mpr ⟨dX0_runOfInterface_208, List.forall_mem_cons.mpr ⟨dX0_runOfInterface_211, List.forall_mem_cons.mpr ⟨dX0_runOfInterface_212, List.forall_mem_cons.mpr ⟨dX0_runOfInterface_213, List.forall_mem_cons.mpr ⟨dX0_runOfInterface_214, List.forall_mem_cons.mpr ⟨dX0_runOfInterface_215, List.forall_mem_cons.mpr ⟨dX0_runOfInterface_217, List.forall_mem_cons.mpr ⟨dX0_runOfInterface_218, List.forall_mem_cons.mpr ⟨dX0_runOfInterface_220, List.forall_mem_cons.mpr ⟨dX0_runOfInterface_223, List.forall_mem_cons.mpr ⟨dX0_runOfInterface_224, List.forall_mem_cons.mpr ⟨dX0_runOfInterface_225, List.forall_mem_cons.mpr ⟨dX0_runOfInterface_226, List.forall_mem_cons.mpr ⟨dX0_runOfInterface_228, List.forall_mem_cons.mpr ⟨dX0_runOfInterface_229, List.forall_mem_cons.mpr ⟨dX0_runOfInterface_231, List.forall_mem_cons.mpr ⟨dX0_runOfInterface_232, List.forall_mem_cons.mpr ⟨dX0_runOfInterface_234, List.forall_mem_cons.mpr ⟨dX0_runOfInterface_237, List.forall_mem_cons.mpr ⟨dX0_runOfInterface_238, List.forall_mem_cons.mpr ⟨dX0_runOfInterface_239, List.forall_mem_cons.mpr ⟨dX0_runOfInterface_241, List.forall_mem_cons.mpr ⟨dX0_runOfInterface_242, List.forall_mem_cons.mpr ⟨dX0_runOfInterface_244, List.forall_mem_cons.mpr ⟨dX0_runOfInterface_247, List.forall_mem_cons.mpr ⟨dX0_runOfInterface_248, List.forall_mem_cons.mpr ⟨dX0_runOfInterface_249, List.forall_mem_cons.mpr ⟨dX0_runOfInterface_250, List.forall_mem_cons.mpr ⟨dX0_runOfInterface_251, List.forall_mem_cons.mpr ⟨dX0_runOfInterface_253, List.forall_mem_cons.mpr ⟨dX0_runOfInterface_254, List.forall_mem_cons.mpr ⟨dX0_runOfInterface_256, List.forall_mem_cons.mpr ⟨dX0_runOfInterface_259, List.forall_mem_cons.mpr ⟨dX0_runOfInterface_260, fun _ h => absurd h List.not_mem_nil⟩⟩⟩⟩⟩⟩⟩⟩⟩⟩⟩⟩⟩⟩⟩⟩⟩⟩⟩⟩⟩⟩⟩⟩⟩⟩⟩⟩⟩⟩⟩⟩⟩⟩⟩⟩⟩⟩⟩⟩
def mi_t9_3 : List (Nat × Instr × Nat) := [(261, .iconst 5, 1), (262, .iconst 2, 1), (263, .iload 4, 2), (265, .invokevirtual 61, 3), (268, .iadd, 1), (269, .ireturn, 1), (270, .aload_n 0, 1), (271, .aload_n 1, 1), (272, .iconst 5, 1), (273, .iload_n 3, 1), (274, .iload 4, 2), (276, .invokevirtual 61, 3), (279, .iconst 5, 1), (280, .imul, 1), (281, .ireturn, 1), (282, .iconst 0, 1), (283, .ireturn, 1)]
theorem mi_k9_3 : ∀ q ∈ mi_t9_3, decode cX0_runOfInterface q.1 = .ok q.2 := List.forall_mem_cons.mpr ⟨dX0_runOfInterface_261, List.forall_mem_cons.mpr ⟨dX0_runOfInterface_262, List.forall_mem_cons.mpr ⟨dX0_runOfInterface_263, List.forall_mem_cons.mpr ⟨dX0_runOfInterface_265, List.forall_mem_cons.mpr ⟨dX0_runOfInterface_268, List.forall_mem_cons.mpr ⟨dX0_runOfInterface_269, List.forall_mem_cons.mpr ⟨dX0_runOfInterface_270, List.forall_mem_cons.mpr ⟨dX0_runOfInterface_271, List.forall_mem_cons.mpr ⟨dX0_runOfInterface_272, List.forall_mem_cons.mpr ⟨dX0_runOfInterface_273, List.forall_mem_cons.mpr ⟨dX0_runOfInterface_274, List.forall_mem_cons.mpr ⟨dX0_runOfInterface_276, List.forall_mem_cons.mpr ⟨dX0_runOfInterface_279, List.forall_mem_cons.mpr ⟨dX0_runOfInterface_280, List.forall_mem_cons.mpr ⟨dX0_runOfInterface_281, List.forall_mem_cons.mpr ⟨dX0_runOfInterface_282, List.forall_mem_cons.mpr ⟨dX0_runOfInterface_283, fun _ h => absurd h List.not_mem_nil⟩⟩⟩⟩⟩⟩⟩⟩⟩⟩⟩⟩⟩⟩⟩⟩⟩
def mi_t9 : mi_T := [(142, mi_t9_0), (200, mi_t9_1), (261, mi_t9_2), (1000000, mi_t9_3)]
theorem mi_k9 : mi_dok cX0_runOfInterface mi_t9 := List.forall_mem_cons.mpr ⟨mi_k9_0, List.forall_mem_cons.mpr ⟨mi_k9_1, List.forall_mem_cons.mpr ⟨mi_k9_2, List.forall_mem_cons.mpr ⟨mi_k9_3, fun _ h => absurd h List.not_mem_nil⟩⟩⟩⟩
def mi_m9 : mi_M := (mi_t9, 0, (some .int), 5, 1, 4, yX0_runOfInterface, cX0_runOfInterface)
def mi_t10_0 : List (Nat × Instr × Nat) := [(0, .iload_n 2, 1), (1, .tableswitch 169 60 70 #[59, 74, 91, 109, 116, 169, 169, 169, 169, 169, 149], 59), (60, .aload_n 1, 1), (61, .dup, 1), (62, .getfield 68, 3), (65, .iload_n 3, 1), (66, .iadd, 1), (67, .putfield 68, 3), (70, .aload_n 1, 1), (71, .getfield 68, 3), (74, .ireturn, 1), (75, .aload_n 1, 1), (76, .dup, 1), (77, .getfield 68, 3), (80, .iconst 3, 1), (81, .iload_n 3, 1), (82, .imul, 1), (83, .isub, 1), (84, .putfield 68, 3), (87, .aload_n 1, 1), (88, .getfield 68, 3), (91, .ireturn, 1), (92, .aload_n 1, 1), (93, .aload_n 1, 1), (94, .getfield 68, 3), (97, .bipush 31, 2), (99, .imul, 1), (100, .iload_n 3, 1), (101, .iadd, 1), (102, .putfield 68, 3), (105, .aload_n 1, 1), (106, .getfield 68, 3), (109, .ireturn, 1), (110, .aload_n 1, 1), (111, .getfield 68, 3), (114, .iload_n 3, 1), (115, .ixor, 1), (116, .ireturn, 1), (117, .aload_n 0, 1), (118, .aload_n 1, 1)]
theorem mi_k10_0 : ∀ q ∈ mi_t10_0, decode cX0_runOfRootOrUnit q.1 = .ok q.2 := List.forall_mem_cons.mpr ⟨dX0_runOfRootOrUnit_0, List.forall_mem_cons.mpr ⟨dX0_runOfRootOrUnit_1, List.forall_mem_cons.mpr ⟨dX0_runOfRootOrUnit_60, List.forall_mem_cons.mpr ⟨dX0_runOfRootOrUnit_61, List.forall_mem_cons.mpr ⟨dX0_runOfRootOrUnit_62, List.forall_mem_cons.mpr ⟨dX0_runOfRootOrUnit_65, List.forall_mem_cons.mpr ⟨dX0_runOfRootOrUnit_66, List.forall_mem_cons.mpr ⟨dX0_runOfRootOrUnit_67, List.forall_mem_cons.mpr ⟨dX0_runOfRootOrUnit_70, List.forall_mem_cons.mpr ⟨dX0_runOfRootOrUnit_71, List.forall_mem_cons.mpr ⟨dX0_runOfRootOrUnit_74, List.forall_mem_cons.mpr ⟨dX0_runOfRootOrUnit_75, List.forall_mem_cons.mpr ⟨dX0_runOfRootOrUnit_76, List.forall_mem_cons.mpr ⟨dX0_runOfRootOrUnit_77, List.forall_mem_cons.mpr ⟨dX0_runOfRootOrUnit_80, List.forall_mem_cons.mpr ⟨dX0_runOfRootOrUnit_81, List.forall_mem_cons.mpr ⟨dX0_runOfRootOrUnit_82, List.forall_mem_cons.mpr ⟨dX0_runOfRootOrUnit_83, List.forall_mem_cons.mpr ⟨dX0_runOfRootOrUnit_84, List.forall_mem_cons.mpr ⟨dX0_runOfRootOrUnit_87, List.forall_mem_cons.mpr ⟨dX0_runOfRootOrUnit_88, List.forall_mem_cons.mpr ⟨dX0_runOfRootOrUnit_91, List.forall_mem_cons.mpr ⟨dX0_runOfRootOrUnit_92, List.forall_mem_cons.mpr ⟨dX0_runOfRootOrUnit_93, List.forall_mem_cons.mpr ⟨dX0_runOfRootOrUnit_94, List.forall_mem_cons.mpr ⟨dX0_runOfRootOrUnit_97, List.forall_mem_cons.mpr ⟨dX0_runOfRootOrUnit_99, List.forall_mem_cons.mpr ⟨dX0_runOfRootOrUnit_100, List.forall_mem_cons.mpr ⟨dX0_runOfRootOrUnit_101, List.forall_mem_cons.mpr ⟨dX0_runOfRootOrUnit_102, List.forall_mem_cons.mpr ⟨dX0_runOfRootOrUnit_105, List.forall_mem_cons.mpr ⟨dX0_runOfRootOrUnit_106, List.forall_mem_cons.mpr ⟨dX0_runOfRootOrUnit_109, List.forall_mem_cons.mpr ⟨dX0_runOfRootOrUnit_110, List.forall_mem_cons.mpr ⟨dX0_runOfRootOrUnit_111, List.forall_mem_cons.mpr ⟨dX0_runOfRootOrUnit_114, List.forall_mem_cons.mpr ⟨dX0_runOfRootOrUnit_115, List.forall_mem_cons.mpr ⟨dX0_runOfRootOrUnit_116, List.forall_mem_cons.mpr ⟨dX0_runOfRootOrUnit_117, List.forall_mem_cons.mpr ⟨dX0_runOfRootOrUnit_118, fun _ h => absurd h List.not_mem_nil⟩⟩⟩⟩⟩⟩⟩⟩⟩⟩⟩⟩⟩⟩⟩⟩⟩⟩⟩⟩⟩⟩⟩⟩⟩⟩⟩⟩⟩⟩⟩⟩⟩⟩⟩⟩⟩⟩⟩⟩
def mi_t10_1 : List (Nat × Instr × Nat) := [(119, .bipush 9, 2), (121, .iload_n 3, 1), (122, .iload 4, 2), (124, .invokevirtual 61, 3), (127, .aload_n 0, 1), (128, .aload_n 1, 1), (129, .bipush 10, 2), (131, .iconst 1, 1), (132, .iload 4, 2), (134, .invokevirtual 61, 3), (137, .iadd, 1), (138, .aload_n 0, 1), (139, .aload_n 1, 1), (140, .bipush 63, 2), (142, .iload_n 3, 1), (143, .iload 4, 2), (145, .invokevirtual 34, 3), (148, .iadd, 1), (149, .ireturn, 1), (150, .aload_n 1, 1), (151, .dup, 1), (152, .getfield 71, 3), (155, .iconst 1, 1), (156, .iadd, 1), (157, .putfield 71, 3), (160, .aload_n 1, 1), (161, .getfield 71, 3), (164, .bipush 7, 2), (166, .imul, 1), (167, .iload_n 3, 1), (168, .iadd, 1), (169, .ireturn, 1), (170, .iconst 0, 1), (171, .ireturn, 1)]
theorem mi_k10_1 : ∀ q ∈ mi_t10_1, decode cX0_runOfRootOrUnit q.1 = .ok q.2 := List.forall_mem_cons.mpr ⟨dX0_runOfRootOrUnit_119, List.forall_mem_cons.mpr ⟨dX0_runOfRootOrUnit_121, List.forall_mem_cons.mpr ⟨dX0_runOfRootOrUnit_122, List.forall_mem_cons.mpr ⟨dX0_runOfRootOrUnit_124, List.forall_mem_cons.mpr ⟨dX0_runOfRootOrUnit_127, List.forall_mem_cons.mpr ⟨dX0_runOfRootOrUnit_128, List.forall_mem_cons.mpr ⟨dX0_runOfRootOrUnit_129, List.forall_mem_cons.mpr ⟨dX0_runOfRootOrUnit_131, List.forall_mem_cons.mpr ⟨dX0_runOfRootOrUnit_132, List.forall_mem_cons.mpr ⟨dX0_runOfRootOrUnit_134, List.forall_mem_cons.mpr ⟨dX0_runOfRootOrUnit_137, List.forall_mem_cons.mpr ⟨dX0_runOfRootOrUnit_138, List.forall_mem_cons.mpr ⟨dX0_runOfRootOrUnit_139, List.forall_mem_cons.mpr ⟨dX0_runOfRootOrUnit_140, List.forall_mem_cons.mpr ⟨dX0_runOfRootOrUnit_142, List.forall_mem_cons.mpr ⟨dX0_runOfRootOrUnit_143, List.forall_mem_cons.mpr ⟨dX0_runOfRootOrUnit_145, List.forall_mem_cons.mpr ⟨dX0_runOfRootOrUnit_148, List.forall_mem_cons.mpr ⟨dX0_runOfRootOrUnit_149, List.forall_mem_cons.mpr ⟨dX0_runOfRootOrUnit_150, List.forall_mem_cons.mpr ⟨dX0_runOfRootOrUnit_151, List.forall_mem_cons.mpr ⟨dX0_runOfRootOrUnit_152, List.forall_mem_cons.mpr ⟨dX0_runOfRootOrUnit_155, List.forall_mem_cons.mpr ⟨dX0_runOfRootOrUnit_156, List.forall_mem_cons.mpr ⟨dX0_runOfRootOrUnit_157, List.forall_mem_cons.mpr ⟨dX0_runOfRootOrUnit_160, List.forall_mem_cons.mpr ⟨dX0_runOfRootOrUnit_161, List.forall_mem_cons.mpr ⟨dX0_runOfRootOrUnit_164, List.forall_mem_cons.mpr ⟨dX0_runOfRootOrUnit_166, List.forall_mem_cons.mpr ⟨dX0_runOfRootOrUnit_167, List.forall_mem_cons.mpr ⟨dX0_runOfRootOrUnit_168, List.forall_mem_cons.mpr ⟨dX0_runOfRootOrUnit_169, List.forall_mem_cons.mpr ⟨dX0_runOfRootOrUnit_170, List.forall_mem_cons.mpr ⟨dX0_runOfRootOrUnit_171, fun _ h => absurd h List.not_mem_nil⟩⟩⟩⟩⟩⟩⟩⟩⟩⟩⟩⟩⟩⟩⟩⟩⟩⟩⟩⟩⟩⟩⟩⟩⟩⟩⟩⟩⟩⟩⟩⟩⟩⟩
def mi_t10 : mi_T := [(119, mi_t10_0), (1000000, mi_t10_1)]
theorem mi_k10 : mi_dok cX0_runOfRootOrUnit mi_t10 := List.forall_mem_cons.mpr ⟨mi_k10_0, List.forall_mem_cons.mpr ⟨mi_k10_1, fun _ h => absurd h List.not_mem_nil⟩⟩
def mi_m10 : mi_M := (mi_t10, 0, (some .int), 5, 1, 4, yX0_runOfRootOrUnit, cX0_runOfRootOrUnit)
def mi_t11_0 : List (Nat × Instr × Nat) := [(0, .iload_n 2, 1), (1, .lookupswitch 189 #[(100, 75), (101, 82), (110, 98), (111, 123), (112, 137), (120, 144), (130, 161), (131, 174)], 75), (76, .aload_n 1, 1), (77, .getfield 68, 3), (80, .iload_n 3, 1), (81, .iadd, 1), (82, .ireturn, 1), (83, .aload_n 0, 1), (84, .iconst 0, 1), (85, .aload_n 1, 1), (86, .bipush 9, 2), (88, .iload_n 3, 1), (89, .iconst 2, 1), (90, .iadd, 1), (91, .iload 4, 2), (93, .invokevirtual 74, 3), (96, .iconst 1, 1), (97, .iadd, 1), (98, .ireturn, 1), (99, .aload_n 0, 1), (100, .iconst 1, 1), (101, .aload_n 1, 1), (102, .bipush 10, 2), (104, .iload_n 3, 1), (105, .iload 4, 2), (107, .invokevirtual 74, 3), (110, .iconst 2, 1), (111, .imul, 1), (112, .aload_n 0, 1), (113, .aload_n 1, 1), (114, .bipush 112, 2), (116, .iload_n 3, 1), (117, .iload 4, 2), (119, .invokevirtual 34, 3), (122, .iadd, 1), (123, .ireturn, 1), (124, .aload_n 0, 1), (125, .bipush 14, 2), (127, .aload_n 1, 1), (128, .iconst 4, 1)]
theorem mi_k11_0 : ∀ q ∈ mi_t11_0, decode cX0_runOfPumpToFine q.1 = .ok q.2 := List.forall_mem_cons.mpr ⟨dX0_runOfPumpToFine_0, List.forall_mem_cons.mpr ⟨dX0_runOfPumpToFine_1, List.forall_mem_cons.mpr ⟨dX0_runOfPumpToFine_76, List.forall_mem_cons.mpr ⟨dX0_runOfPumpToFine_77, List.forall_mem_cons.mpr ⟨dX0_runOfPumpToFine_80, List.forall_mem_cons.mpr ⟨dX0_runOfPumpToFine_81, List.forall_mem_cons.mpr ⟨dX0_runOfPumpToFine_82, List.forall_mem_cons.mpr ⟨dX0_runOfPumpToFine_83, List.forall_mem_cons.mpr ⟨dX0_runOfPumpToFine_84, List.forall_mem_cons.mpr ⟨dX0_runOfPumpToFine_85, List.forall_mem_cons.mpr ⟨dX0_runOfPumpToFine_86, List.forall_mem_cons.mpr ⟨dX0_runOfPumpToFine_88, List.forall_mem_cons.mpr ⟨dX0_runOfPumpToFine_89, List.forall_mem_cons.mpr ⟨dX0_runOfPumpToFine_90, List.forall_mem_cons.mpr ⟨dX0_runOfPumpToFine_91, List.forall_mem_cons.mpr ⟨dX0_runOfPumpToFine_93, List.forall_mem_cons.mpr ⟨dX0_runOfPumpToFine_96, List.forall_mem_cons.mpr ⟨dX0_runOfPumpToFine_97, List.forall_mem_cons.mpr ⟨dX0_runOfPumpToFine_98, List.forall_mem_cons.mpr ⟨dX0_runOfPumpToFine_99, List.forall_mem_cons.mpr ⟨dX0_runOfPumpToFine_100, List.forall_mem_cons.mpr ⟨dX0_runOfPumpToFine_101, List.forall_mem_cons.mpr ⟨dX0_runOfPumpToFine_102, List.forall_mem_cons.mpr ⟨dX0_runOfPumpToFine_104, List.forall_mem_cons.mpr ⟨dX0_runOfPumpToFine_105, List.forall_mem_cons.mpr ⟨dX0_runOfPumpToFine_107, List.forall_mem_cons.mpr ⟨dX0_runOfPumpToFine_110, List.forall_mem_cons.mpr ⟨dX0_runOfPumpToFine_111, List.forall_mem_cons.mpr ⟨dX0_runOfPumpToFine_112, List.forall_mem_cons.mpr ⟨dX0_runOfPumpToFine_113, List.forall_mem_cons.mpr ⟨dX0_runOfPumpToFine_114, List.forall_mem_cons.mpr ⟨dX0_runOfPumpToFine_116, List.forall_mem_cons.mpr ⟨dX0_runOfPumpToFine_117, List.forall_mem_cons.mpr ⟨dX0_runOfPumpToFine_119, List.forall_mem_cons.mpr ⟨dX0_runOfPumpToFine_122, List.forall_mem_cons.mpr ⟨dX0_runOfPumpToFine_123, List.forall_mem_cons.mpr ⟨dX0_runOfPumpToFine_124, List.forall_mem_cons.mpr ⟨dX0_runOfPumpToFine_125, List.forall_mem_cons.mpr ⟨dX0_runOfPumpToFine_127, List.forall_mem_cons.mpr ⟨dX0_runOfPumpToFine_128, fun _ h => absurd h List.not_mem_nil⟩⟩⟩⟩⟩⟩⟩⟩⟩⟩⟩⟩⟩⟩⟩⟩⟩⟩⟩⟩⟩⟩⟩⟩⟩⟩⟩⟩⟩⟩⟩⟩⟩⟩⟩⟩⟩⟩⟩⟩
def mi_t11_1 : List (Nat × Instr × Nat) := [(129, .iload_n 3, 1), (130, .iload 4, 2), (132, .invokevirtual 64, 3), (135, .iconst 1, 1), (136, .isub, 1), (137, .ireturn, 1), (138, .aload_n 1, 1), (139, .getfield 71, 3), (142, .iload_n 3, 1), (143, .isub, 1), (144, .ireturn, 1), (145, .aload_n 0, 1), (146, .aload_n 1, 1), (147, .iconst 5, 1), (148, .iload_n 3, 1), (149, .iload 4, 2), (151, .invokevirtual 61, 3), (154, .iconst 3, 1), (155, .imul, 1), (156, .aload_n 1, 1), (157, .getfield 68, 3), (160, .iadd, 1), (161, .ireturn, 1), (162, .aload_n 0, 1), (163, .iconst 3, 1), (164, .aload_n 1, 1), (165, .iconst 0, 1), (166, .iload_n 3, 1), (167, .iload 4, 2), (169, .invokevirtual 74, 3), (172, .iconst 3, 1), (173, .imul, 1), (174, .ireturn, 1), (175, .aload_n 0, 1), (176, .iconst 3, 1), (177, .aload_n 1, 1), (178, .iconst 1, 1), (179, .iload_n 3, 1), (180, .iconst 1, 1), (181, .iadd, 1)]
theorem mi_k11_1 : ∀ q ∈ mi_t11_1, decode cX0_runOfPumpToFine q.1 = .ok q.2 := List.forall_mem_cons.mpr ⟨dX0_runOfPumpToFine_129, List.forall_mem_cons.mpr ⟨dX0_runOfPumpToFine_130, List.forall_mem_cons.mpr ⟨dX0_runOfPumpToFine_132, List.forall_mem_cons.mpr ⟨dX0_runOfPumpToFine_135, List.forall_mem_cons.mpr ⟨dX0_runOfPumpToFine_136, List.forall_mem_cons.mpr ⟨dX0_runOfPumpToFine_137, List.forall_mem_cons.mpr ⟨dX0_runOfPumpToFine_138, List.forall_mem_cons.mpr ⟨dX0_runOfPumpToFine_139, List.forall_mem_cons.mpr ⟨dX0_runOfPumpToFine_142, List.forall_mem_cons.mpr ⟨dX0_runOfPumpToFine_143, List.forall_mem_cons.mpr ⟨dX0_runOfPumpToFine_144, List.forall_mem_cons.mpr ⟨dX0_runOfPumpToFine_145, List.forall_mem_cons.mpr ⟨dX0_runOfPumpToFine_146, List.forall_mem_cons.mpr ⟨dX0_runOfPumpToFine_147, List.forall_mem_cons.mpr ⟨dX0_runOfPumpToFine_148, List.forall_mem_cons.mpr ⟨dX0_runOfPumpToFine_149, List.forall_mem_cons.mpr ⟨dX0_runOfPumpToFine_151, List.forall_mem_cons.mpr ⟨dX0_runOfPumpToFine_154, List.forall_mem_cons.mpr ⟨dX0_runOfPumpToFine_155, List.forall_mem_cons.mpr ⟨dX0_runOfPumpToFine_156, List.forall_mem_cons.mpr ⟨dX0_runOfPumpToFine_157, List.forall_mem_cons.mpr ⟨dX0_runOfPumpToFine_160, List.forall_mem_cons.mpr ⟨dX0_runOfPumpToFine_161, List.forall_mem_cons.mpr ⟨dX0_runOfPumpToFine_162, List.forall_mem_cons.mpr ⟨dX0_runOfPumpToFine_163, List.forall_mem_cons.mpr ⟨dX0_runOfPumpToFine_164, List.forall_mem_cons.mpr ⟨dX0_runOfPumpToFine_165, List.forall_mem_cons.mpr ⟨dX0_runOfPumpToFine_166, List.forall_mem_cons.mpr ⟨dX0_runOfPumpToFine_167, List.forall_mem_cons.mpr ⟨dX0_runOfPumpToFine_169, List.forall_mem_cons.mpr ⟨dX0_runOfPumpToFine_172, List.forall_mem_cons.mpr ⟨dX0_runOfPumpToFine_173, List.forall_mem_cons.mpr ⟨dX0_runOfPumpToFine_174, List.forall_mem_cons.mpr ⟨dX0_runOfPumpToFine_175, List.forall_mem_cons.mpr ⟨dX0_runOfPumpToFine_176, List.forall_mem_cons.mpr ⟨dX0_runOfPumpToFine_177, List.forall_mem_cons.mpr ⟨dX0_runOfPumpToFine_178, List.forall_mem_cons.mpr ⟨dX0_runOfPumpToFine_179, List.forall_mem_cons.mpr ⟨dX0_runOfPumpToFine_180, List.forall_mem_cons.mpr ⟨dX0_runOfPumpToFine_181, fun _ h => absurd h List.not_mem_nil⟩⟩⟩⟩⟩⟩⟩⟩⟩⟩⟩⟩⟩⟩⟩⟩⟩⟩⟩⟩⟩⟩⟩⟩⟩⟩⟩⟩⟩⟩⟩⟩⟩⟩⟩⟩⟩⟩⟩⟩
def mi_t11_2 : List (Nat × Instr × Nat) := [(182, .iload 4, 2), (184, .invokevirtual 74, 3), (187, .iconst 5, 1), (188, .iadd, 1), (189, .ireturn, 1), (190, .iconst 0, 1), (191, .ireturn, 1)]
theorem mi_k11_2 : ∀ q ∈ mi_t11_2, decode cX0_runOfPumpToFine q.1 = .ok q.2 := List.forall_mem_cons.mpr ⟨dX0_runOfPumpToFine_182, List.forall_mem_cons.mpr ⟨dX0_runOfPumpToFine_184, List.forall_mem_cons.mpr ⟨dX0_runOfPumpToFine_187, List.forall_mem_cons.mpr ⟨dX0_runOfPumpToFine_188, List.forall_mem_cons.mpr ⟨dX0_runOfPumpToFine_189, List.forall_mem_cons.mpr ⟨dX0_runOfPumpToFine_190, List.forall_mem_cons.mpr ⟨dX0_runOfPumpToFine_191, fun _ h => absurd h List.not_mem_nil⟩⟩⟩⟩⟩⟩⟩
def mi_t11 : mi_T := [(129, mi_t11_0), (182, mi_t11_1), (1000000, mi_t11_2)]
theorem mi_k11 : mi_dok cX0_runOfPumpToFine mi_t11 := List.forall_mem_cons.mpr ⟨mi_k11_0, List.forall_mem_cons.mpr ⟨mi_k11_1, List.forall_mem_cons.mpr ⟨mi_k11_2, fun _ h => absurd h List.not_mem_nil⟩⟩⟩
def mi_m11 : mi_M := (mi_t11, 0, (some .int), 5, 1, 4, yX0_runOfPumpToFine, cX0_runOfPumpToFine)
def mi_t12_0 : List (Nat × Instr × Nat) := [(0, .iload_n 2, 1), (1, .tableswitch 257 140 163 #[111, 118, 141, 257, 257, 257, 257, 257, 257, 257, 157, 172, 194, 257, 257, 257, 257, 257, 257, 257, 208, 210, 227, 232], 111), (112, .aload_n 1, 1), (113, .getfield 68, 3), (116, .iload_n 3, 1), (117, .isub, 1), (118, .ireturn, 1), (119, .aload_n 0, 1), (120, .iconst 4, 1), (121, .aload_n 1, 1), (122, .iconst 2, 1), (123, .iload_n 3, 1), (124, .iload 4, 2), (126, .invokevirtual 74, 3), (129, .aload_n 0, 1), (130, .bipush 13, 2), (132, .aload_n 1, 1), (133, .iconst 2, 1), (134, .iconst 1, 1), (135, .iload 4, 2), (137, .invokevirtual 64, 3), (140, .isub, 1), (141, .ireturn, 1), (142, .aload_n 0, 1), (143, .iconst 4, 1), (144, .aload_n 1, 1), (145, .bipush 10, 2), (147, .iload_n 3, 1), (148, .iconst 1, 1), (149, .iadd, 1), (150, .iload 4, 2), (152, .invokevirtual 74, 3), (155, .iconst 4, 1), (156, .iadd, 1), (157, .ireturn, 1), (158, .aload_n 0, 1), (159, .aload_n 1, 1), (160, .iconst 5, 1), (161, .iload_n 3, 1), (162, .iload 4, 2)]
theorem mi_k12_0 : ∀ q ∈ mi_t12_0, decode cX0_runOfRelayToMute q.1 = .ok q.2 := List.forall_mem_cons.mpr ⟨dX0_runOfRelayToMute_0, List.forall_mem_cons.mpr ⟨dX0_runOfRelayToMute_1, List.forall_mem_cons.mpr ⟨dX0_runOfRelayToMute_112, List.forall_mem_cons.mpr ⟨dX0_runOfRelayToMute_113, List.forall_mem_cons.mpr ⟨dX0_runOfRelayToMute_116, List.forall_mem_cons.mpr ⟨dX0_runOfRelayToMute_117, List.forall_mem_cons.mpr ⟨dX0_runOfRelayToMute_118, List.forall_mem_cons.mpr ⟨dX0_runOfRelayToMute_119, List.forall_mem_cons.mpr ⟨dX0_runOfRelayToMute_120, List.forall_mem_cons.mpr ⟨dX0_runOfRelayToMute_121, List.forall_mem_cons.mpr ⟨dX0_runOfRelayToMute_122, List.forall_mem_cons.mpr ⟨dX0_runOfRelayToMute_123, List.forall_mem_cons.mpr ⟨dX0_runOfRelayToMute_124, List.forall_mem_cons.mpr ⟨dX0_runOfRelayToMute_126, List.forall_mem_cons.mpr ⟨dX0_runOfRelayToMute_129, List.forall_mem_cons.mpr ⟨dX0_runOfRelayToMute_130, List.forall_mem_cons.mpr ⟨dX0_runOfRelayToMute_132, List.forall_mem_cons.mpr ⟨dX0_runOfRelayToMute_133, List.forall_mem_cons.mpr ⟨dX0_runOfRelayToMute_134, List.forall_mem_cons.mpr ⟨dX0_runOfRelayToMute_135, List.forall_mem_cons.mpr ⟨dX0_runOfRelayToMute_137, List.forall_mem_cons.mpr ⟨dX0_runOfRelayToMute_140, List.forall_mem_cons.mpr ⟨dX0_runOfRelayToMute_141, List.forall_mem_cons.mpr ⟨dX0_runOfRelayToMute_142, List.forall_mem_cons.mpr ⟨dX0_runOfRelayToMute_143, List.forall_mem_cons.mpr ⟨dX0_runOfRelayToMute_144, List.forall_mem_cons.mpr ⟨dX0_runOfRelayToMute_145, List.forall_mem_cons.mpr ⟨dX0_runOfRelayToMute_147, List.forall_mem_cons.mpr ⟨dX0_runOfRelayToMute_148, List.forall_mem_cons.mpr ⟨dX0_runOfRelayToMute_149, List.forall_mem_cons.mpr ⟨dX0_runOfRelayToMute_150, List.forall_mem_cons.mpr ⟨dX0_runOfRelayToMute_152, List.forall_mem_cons.mpr ⟨dX0_runOfRelayToMute_155, List.forall_mem_cons.mpr ⟨dX0_runOfRelayToMute_156, List.forall_mem_cons.mpr ⟨dX0_runOfRelayToMute_157, List.forall_mem_cons.mpr ⟨dX0_runOfRelayToMute_158, List.forall_mem_cons.mpr ⟨dX0_runOfRelayToMute_159, List.forall_mem_cons.mpr ⟨dX0_runOfRelayToMute_160, List.forall_mem_cons.mpr ⟨dX0_runOfRelayToMute_161, List.forall_mem_cons.mpr ⟨dX0_runOfRelayToMute_162, fun _ h => absurd h List.not_mem_nil⟩⟩⟩⟩⟩⟩⟩⟩⟩⟩⟩⟩⟩⟩⟩⟩⟩⟩⟩⟩⟩⟩⟩⟩⟩⟩⟩⟩⟩⟩⟩⟩⟩⟩⟩⟩⟩⟩⟩⟩
def mi_t12_1 : List (Nat × Instr × Nat) := [(164, .invokevirtual 61, 3), (167, .aload_n 1, 1), (168, .getfield 68, 3), (171, .iadd, 1), (172, .ireturn, 1), (173, .aload_n 0, 1), (174, .iconst 5, 1), (175, .aload_n 1, 1), (176, .bipush 9, 2), (178, .iload_n 3, 1), (179, .iload 4, 2), (181, .invokevirtual 74, 3), (184, .aload_n 0, 1), (185, .aload_n 1, 1), (186, .iconst 2, 1), (187, .iconst 0, 1), (188, .iload 4, 2), (190, .invokevirtual 61, 3), (193, .ixor, 1), (194, .ireturn, 1), (195, .aload_n 0, 1), (196, .bipush 15, 2), (198, .aload_n 1, 1), (199, .iconst 4, 1), (200, .iload_n 3, 1), (201, .iload 4, 2), (203, .invokevirtual 64, 3), (206, .iconst 1, 1), (207, .iadd, 1), (208, .ireturn, 1), (209, .iload_n 3, 1), (210, .ireturn, 1), (211, .aload_n 0, 1), (212, .bipush 17, 2), (214, .aload_n 1, 1), (215, .bipush 8, 2), (217, .iload_n 3, 1), (218, .iload 4, 2), (220, .invokevirtual 64, 3), (223, .sipush 255, 3)]
theorem mi_k12_1 : ∀ q ∈ mi_t12_1, decode cX0_runOfRelayToMute q.1 = .ok q.2 := List.forall_mem_cons.mpr ⟨dX0_runOfRelayToMute_164, List.forall_mem_cons.mpr ⟨dX0_runOfRelayToMute_167, List.forall_mem_cons.mpr ⟨dX0_runOfRelayToMute_168, List.forall_mem_cons.mpr ⟨dX0_runOfRelayToMute_171, List.forall_mem_cons.mpr ⟨dX0_runOfRelayToMute_172, List.forall_mem_cons.mpr ⟨dX0_runOfRelayToMute_173, List.forall_mem_cons.mpr ⟨dX0_runOfRelayToMute_174, List.forall_mem_cons.mpr ⟨dX0_runOfRelayToMute_175, List.forall_mem_cons.mpr ⟨dX0_runOfRelayToMute_176, List.forall_mem_cons.mpr ⟨dX0_runOfRelayToMute_178, List.forall_mem_cons.mpr ⟨dX0_runOfRelayToMute_179, List.forall_mem_cons.mpr ⟨dX0_runOfRelayToMute_181, List.forall_mem_cons.mpr ⟨dX0_runOfRelayToMute_184, List.forall_mem_cons.mpr ⟨dX0_runOfRelayToMute_185, List.forall_mem_cons.mpr ⟨dX0_runOfRelayToMute_186, List.forall_mem_cons.mpr ⟨dX0_runOfRelayToMute_187, List.forall_mem_cons.mpr ⟨dX0_runOfRelayToMute_188, List.forall_mem_cons.mpr ⟨dX0_runOfRelayToMute_190, List.forall_mem_cons.mpr ⟨dX0_runOfRelayToMute_193, List.forall_mem_cons.mpr ⟨dX0_runOfRelayToMute_194, List.forall_mem_cons.mpr ⟨dX0_runOfRelayToMute_195, List.forall_mem_cons.mpr ⟨dX0_runOfRelayToMute_196, List.forall_mem_cons.mpr ⟨dX0_runOfRelayToMute_198, List.forall_mem_cons.mpr ⟨dX0_runOfRelayToMute_199, List.forall_mem_cons.mpr ⟨dX0_runOfRelayToMute_200, List.forall_mem_cons.mpr ⟨dX0_runOfRelayToMute_201, List.forall_mem_cons.mpr ⟨dX0_runOfRelayToMute_203, List.forall_mem_cons.mpr ⟨dX0_runOfRelayToMute_206, List.forall_mem_cons.mpr ⟨dX0_runOfRelayToMute_207, List.forall_mem_cons.mpr ⟨dX0_runOfRelayToMute_208, List.forall_mem_cons.mpr ⟨dX0_runOfRelayToMute_209, List.forall_mem_cons.mpr ⟨dX0_runOfRelayToMute_210, List.forall_mem_cons.mpr ⟨dX0_runOfRelayToMute_211, List.forall_mem_cons.mpr ⟨dX0_runOfRelayToMute_212, List.forall_mem_cons.mpr ⟨dX0_runOfRelayToMute_214, List.forall_mem_cons.mpr ⟨dX0_runOfRelayToMute_215, List.forall_mem_cons.mpr ⟨dX0_runOfRelayToMute_217, List.forall_mem_cons.mpr ⟨dX0_runOfRelayToMute_218, List.forall_mem_cons.mpr ⟨dX0_runOfRelayToMute_220, List.forall_mem_cons.mpr ⟨dX0_runOfRelayToMute_223, fun _ h => absurd h List.not_mem_nil⟩⟩⟩⟩⟩⟩⟩⟩⟩⟩⟩⟩⟩⟩⟩⟩⟩⟩⟩⟩⟩⟩⟩⟩⟩⟩⟩⟩⟩⟩⟩⟩⟩⟩⟩⟩⟩⟩⟩⟩
def mi_t12_2 : List (Nat × Instr × Nat) := [(226, .iand, 1), (227, .ireturn, 1), (228, .iload_n 3, 1), (229, .bipush 99, 2), (231, .iadd, 1), (232, .ireturn, 1), (233, .aload_n 0, 1), (234, .aload_n 1, 1), (235, .sipush 162, 3), (238, .iload_n 3, 1), (239, .iload 4, 2), (241, .invokevirtual 34, 3), (244, .aload_n 0, 1), (245, .bipush 6, 2), (247, .aload_n 1, 1), (248, .bipush 9, 2), (250, .iconst 1, 1), (251, .iload 4, 2), (253, .invokevirtual 74, 3), (256, .iadd, 1), (257, .ireturn, 1), (258, .iconst 0, 1), (259, .ireturn, 1)]
theorem mi_k12_2 : ∀ q ∈ mi_t12_2, decode cX0_runOfRelayToMute q.1 = .ok q.2 := List.forall_mem_cons.mpr ⟨dX0_runOfRelayToMute_226, List.forall_mem_cons.mpr ⟨dX0_runOfRelayToMute_227, List.forall_mem_cons.mpr ⟨dX0_runOfRelayToMute_228, List.forall_mem_cons.mpr ⟨dX0_runOfRelayToMute_229, List.forall_mem_cons.mpr ⟨dX0_runOfRelayToMute_231, List.forall_mem_cons.mpr ⟨dX0_runOfRelayToMute_232, List.forall_mem_cons.mpr ⟨dX0_runOfRelayToMute_233, List.forall_mem_cons.mpr ⟨dX0_runOfRelayToMute_234, List.forall_mem_cons.mpr ⟨dX0_runOfRelayToMute_235, List.forall_mem_cons.mpr ⟨dX0_runOfRelayToMute_238, List.forall_mem_cons.mpr ⟨dX0_runOfRelayToMute_239, List.forall_mem_cons.mpr ⟨dX0_runOfRelayToMute_241, List.forall_mem_cons.mpr ⟨dX0_runOfRelayToMute_244, List.forall_mem_cons.mpr ⟨dX0_runOfRelayToMute_245, List.forall_mem_cons.mpr ⟨dX0_runOfRelayToMute_247, List.forall_mem_cons.mpr ⟨dX0_runOfRelayToMute_248, List.forall_mem_cons.mpr ⟨dX0_runOfRelayToMute_250, List.forall_mem_cons.mpr ⟨dX0_runOfRelayToMute_251, List.forall_mem_cons.mpr ⟨dX0_runOfRelayToMute_253, List.forall_mem_cons.mpr ⟨dX0_runOfRelayToMute_256, List.forall_mem_cons.mpr ⟨dX0_runOfRelayToMute_257, List.forall_mem_cons.mpr ⟨dX0_runOfRelayToMute_258, List.forall_mem_cons.mpr ⟨dX0_runOfRelayToMute_259, fun _ h => absurd h List.not_mem_nil⟩⟩⟩⟩⟩⟩⟩⟩⟩⟩⟩⟩⟩⟩⟩⟩⟩⟩⟩⟩⟩⟩⟩
def mi_t12 : mi_T := [(164, mi_t12_0), (226, mi_t12_1), (1000000, mi_t12_2)]
theorem mi_k12 : mi_dok cX0_runOfRelayToMute mi_t12 := List.forall_mem_cons.mpr ⟨mi_k12_0, List.forall_mem_cons.mpr ⟨mi_k12_1, List.forall_mem_cons.mpr ⟨mi_k12_2, fun _ h => absurd h List.not_mem_nil⟩⟩⟩
def mi_m12 : mi_M := (mi_t12, 0, (some .int), 5, 1, 4, yX0_runOfRelayToMute, cX0_runOfRelayToMute)
def mi_t13_0 : List (Nat × Instr × Nat) := [(0, .iload_n 2, 1), (1, .tableswitch 235 180 204 #[115, 130, 235, 235, 235, 235, 235, 235, 235, 235, 152, 235, 235, 235, 235, 235, 235, 235, 235, 235, 165, 172, 197, 235, 221], 115), (116, .aload_n 0, 1), (117, .bipush 8, 2), (119, .aload_n 1, 1), (120, .bipush 9, 2), (122, .iload_n 3, 1), (123, .iload 4, 2), (125, .invokevirtual 74, 3), (128, .iconst 1, 1), (129, .isub, 1), (130, .ireturn, 1), (131, .aload_n 0, 1), (132, .bipush 8, 2), (134, .aload_n 1, 1), (135, .iconst 2, 1), (136, .iload_n 3, 1), (137, .iload 4, 2), (139, .invokevirtual 74, 3), (142, .aload_n 0, 1), (143, .aload_n 1, 1), (144, .iconst 1, 1), (145, .iconst 2, 1), (146, .iload 4, 2), (148, .invokevirtual 61, 3), (151, .iadd, 1), (152, .ireturn, 1), (153, .aload_n 0, 1), (154, .aload_n 1, 1), (155, .bipush 10, 2), (157, .iload_n 3, 1), (158, .iload 4, 2), (160, .invokevirtual 61, 3), (163, .iconst 2, 1), (164, .imul, 1), (165, .ireturn, 1), (166, .aload_n 1, 1), (167, .getfield 71, 3), (170, .iload_n 3, 1), (171, .iadd, 1)]
theorem mi_k13_0 : ∀ q ∈ mi_t13_0, decode cX0_runOfBoostToLedger q.1 = .ok q.2 := List.forall_mem_cons.mpr ⟨dX0_runOfBoostToLedger_0, List.forall_mem_cons.mpr ⟨dX0_runOfBoostToLedger_1, List.forall_mem_cons.mpr ⟨dX0_runOfBoostToLedger_116, List.forall_mem_cons.mpr ⟨dX0_runOfBoostToLedger_117, List.forall_mem_cons.mpr ⟨dX0_runOfBoostToLedger_119, List.forall_mem_cons.mpr ⟨dX0_runOfBoostToLedger_120, List.forall_mem_cons.mpr ⟨dX0_runOfBoostToLedger_122, List.forall_mem_cons.mpr ⟨dX0_runOfBoostToLedger_123, List.forall_mem_cons.mpr ⟨dX0_runOfBoostToLedger_125, List.forall_mem_cons.mpr ⟨dX0_runOfBoostToLedger_128, List.forall_mem_cons.mpr ⟨dX0_runOfBoostToLedger_129, List.forall_mem_cons.mpr ⟨dX0_runOfBoostToLedger_130, List.forall_mem_cons.mpr ⟨dX0_runOfBoostToLedger_131, List.forall_mem_cons.mpr ⟨dX0_runOfBoostToLedger_132, List.forall_mem_cons.mpr ⟨dX0_runOfBoostToLedger_134, List.forall_mem_cons.mpr ⟨dX0_runOfBoostToLedger_135, List.forall_mem_cons.mpr ⟨dX0_runOfBoostToLedger_136, List.forall_mem_cons.mpr ⟨dX0_runOfBoostToLedger_137, List.forall_mem_cons.mpr ⟨dX0_runOfBoostToLedger_139, List.forall_mem_cons.mpr ⟨dX0_runOfBoostToLedger_142, List.forall_mem_cons.mpr ⟨dX0_runOfBoostToLedger_143, List.forall_mem_cons.mpr ⟨dX0_runOfBoostToLedger_144, List.forall_mem_cons.mpr ⟨dX0_runOfBoostToLedger_145, List.forall_mem_cons.mpr ⟨dX0_runOfBoostToLedger_146, List.forall_mem_cons.mpr ⟨dX0_runOfBoostToLedger_148, List.forall_mem_cons.mpr ⟨dX0_runOfBoostToLedger_151, List.forall_mem_cons.mpr ⟨dX0_runOfBoostToLedger_152, List.forall_mem_cons.mpr ⟨dX0_runOfBoostToLedger_153, List.forall_mem_cons.mpr ⟨dX0_runOfBoostToLedger_154, List.forall_mem_cons.mpr ⟨dX0_runOfBoostToLedger_155, List.forall_mem_cons.mpr ⟨dX0_runOfBoostToLedger_157, List.forall_mem_cons.mpr ⟨dX0_runOfBoostToLedger_158, List.forall_mem_cons.mpr ⟨dX0_runOfBoostToLedger_160, List.forall_mem_cons.mpr ⟨dX0_runOfBoostToLedger_163, List.forall_mem_cons.mpr ⟨dX0_runOfBoostToLedger_164, List.forall_mem_cons.mpr ⟨dX0_runOfBoostToLedger_165, List.forall_mem_cons.mpr ⟨dX0_runOfBoostToLedger_166, List.forall_mem_cons.mpr ⟨dX0_runOfBoostToLedger_167, List.forall_mem_cons.mpr ⟨dX0_runOfBoostToLedger_170, List.forall_mem_cons.mpr ⟨dX0_runOfBoostToLedger_171, fun _ h => absurd h List.not_mem_nil⟩⟩⟩⟩⟩⟩⟩⟩⟩⟩⟩⟩⟩⟩⟩⟩⟩⟩⟩⟩⟩⟩⟩⟩⟩⟩⟩⟩⟩⟩⟩⟩⟩⟩⟩⟩⟩⟩⟩⟩
def mi_t13_1 : List (Nat × Instr × Nat) := [(172, .ireturn, 1), (173, .aload_n 0, 1), (174, .bipush 17, 2), (176, .aload_n 1, 1), (177, .bipush 7, 2), (179, .iload_n 3, 1), (180, .iload 4, 2), (182, .invokevirtual 64, 3), (185, .aload_n 0, 1), (186, .aload_n 1, 1), (187, .sipush 200, 3), (190, .iload_n 3, 1), (191, .iload 4, 2), (193, .invokevirtual 34, 3), (196, .iadd, 1), (197, .ireturn, 1), (198, .aload_n 0, 1), (199, .bipush 15, 2), (201, .aload_n 1, 1), (202, .iconst 2, 1), (203, .iload_n 3, 1), (204, .iload 4, 2), (206, .invokevirtual 64, 3), (209, .aload_n 0, 1), (210, .bipush 10, 2), (212, .aload_n 1, 1), (213, .iconst 2, 1), (214, .iload_n 3, 1), (215, .iload 4, 2), (217, .invokevirtual 74, 3), (220, .iadd, 1), (221, .ireturn, 1), (222, .aload_n 0, 1), (223, .bipush 10, 2), (225, .aload_n 1, 1), (226, .iconst 5, 1), (227, .iload_n 3, 1), (228, .iload 4, 2), (230, .invokevirtual 74, 3), (233, .iconst 1, 1)]
theorem mi_k13_1 : ∀ q ∈ mi_t13_1, decode cX0_runOfBoostToLedger q.1 = .ok q.2 := List.forall_mem_cons.mpr ⟨dX0_runOfBoostToLedger_172, List.forall_mem_cons.mpr ⟨dX0_runOfBoostToLedger_173, List.forall_mem_cons.mpr ⟨dX0_runOfBoostToLedger_174, List.forall_mem_cons.mpr ⟨dX0_runOfBoostToLedger_176, List.forall_mem_cons.mpr ⟨dX0_runOfBoostToLedger_177, List.forall_mem_cons.mpr ⟨dX0_runOfBoostToLedger_179, List.forall_mem_cons.mpr ⟨dX0_runOfBoostToLedger_180, List.forall_mem_cons.mpr ⟨dX0_runOfBoostToLedger_182, List.forall_mem_cons.mpr ⟨dX0_runOfBoostToLedger_185, List.forall_mem_cons.mpr ⟨dX0_runOfBoostToLedger_186, List.forall_mem_cons.mpr ⟨dX0_runOfBoostToLedger_187, List.forall_mem_cons.mpr ⟨dX0_runOfBoostToLedger_190, List.forall_mem_cons.mpr ⟨dX0_runOfBoostToLedger_191, List.forall_mem_cons.mpr ⟨dX0_runOfBoostToLedger_193, List.forall_mem_cons.mpr ⟨dX0_runOfBoostToLedger_196, List.forall_mem_cons.mpr ⟨dX0_runOfBoostToLedger_197, List.forall_mem_cons.mpr ⟨dX0_runOfBoostToLedger_198, List.forall_mem_cons.mpr ⟨dX0_runOfBoostToLedger_199, List.forall_mem_cons.mpr ⟨dX0_runOfBoostToLedger_201, List.forall_mem_cons.mpr ⟨dX0_runOfBoostToLedger_202, List.forall_mem_cons.mpr ⟨dX0_runOfBoostToLedger_203, List.forall_mem_cons.mpr ⟨dX0_runOfBoostToLedger_204, List.forall_mem_cons.mpr ⟨dX0_runOfBoostToLedger_206, List.forall_mem_cons.mpr ⟨dX0_runOfBoostToLedger_209, List.forall_mem_cons.mpr ⟨dX0_runOfBoostToLedger_210, List.forall_mem_cons.mpr ⟨dX0_runOfBoostToLedger_212, List.forall_mem_cons.mpr ⟨dX0_runOfBoostToLedger_213, List.forall_mem_cons.mpr ⟨dX0_runOfBoostToLedger_214, List.forall_mem_cons.mpr ⟨dX0_runOfBoostToLedger_215, List.forall_mem_cons.mpr ⟨dX0_runOfBoostToLedger_217, List.forall_mem_cons.mpr ⟨dX0_runOfBoostToLedger_220, List.forall_mem_cons.mpr ⟨dX0_runOfBoostToLedger_221, List.forall_mem_cons.mpr ⟨dX0_runOfBoostToLedger_222, List.forall_mem_cons.mpr ⟨dX0_runOfBoostToLedger_223, List.forall_mem_cons.mpr ⟨dX0_runOfBoostToLedger_225, List.forall_mem_cons.mpr ⟨dX0_runOfBoostToLedger_226, List.forall_mem_cons.mpr ⟨dX0_runOfBoostToLedger_227, List.forall_mem_cons.mpr ⟨dX0_runOfBoostToLedger_228, List.forall_mem_cons.mpr ⟨dX0_runOfBoostToLedger_230, List.forall_mem_cons.mpr ⟨dX0_runOfBoostToLedger_233, fun _ h => absurd h List.not_mem_nil⟩⟩⟩⟩⟩⟩⟩⟩⟩⟩⟩⟩⟩⟩⟩⟩⟩⟩⟩⟩⟩⟩⟩⟩⟩⟩⟩⟩⟩⟩⟩⟩⟩⟩⟩⟩⟩⟩⟩⟩
def mi_t13_2 : List (Nat × Instr × Nat) := [(234, .iadd, 1), (235, .ireturn, 1), (236, .iconst 0, 1), (237, .ireturn, 1)]
theorem mi_k13_2 : ∀ q ∈ mi_t13_2, decode cX0_runOfBoostToLedger q.1 = .ok q.2 := List.forall_mem_cons.mpr ⟨dX0_runOfBoostToLedger_234, List.forall_mem_cons.mpr ⟨dX0_runOfBoostToLedger_235, List.forall_mem_cons.mpr ⟨dX0_runOfBoostToLedger_236, List.forall_mem_cons.mpr ⟨dX0_runOfBoostToLedger_237, fun _ h => absurd h List.not_mem_nil⟩⟩⟩⟩
def mi_t13 : mi_T := [(172, mi_t13_0), (234, mi_t13_1), (1000000, mi_t13_2)]
theorem mi_k13 : mi_dok cX0_runOfBoostToLedger mi_t13 := List.forall_mem_cons.mpr ⟨mi_k13_0, List.forall_mem_cons.mpr ⟨mi_k13_1, List.forall_mem_cons.mpr ⟨mi_k13_2, fun _ h => absurd h List.not_mem_nil⟩⟩⟩
def mi_m13 : mi_M := (mi_t13, 0, (some .int), 5, 1, 4, yX0_runOfBoostToLedger, cX0_runOfBoostToLedger)
def mi_t14_0 : List (Nat × Instr × Nat) := [(0, .aload_n 0, 1), (1, .invokespecial 1, 3), (4, .aload_n 0, 1), (5, .iload_n 1, 1), (6, .putfield 7, 3), (9, .aload_n 0, 1), (10, .iload_n 2, 1), (11, .putfield 13, 3), (14, .aload_n 0, 1), (15, .iload_n 1, 1), (16, .invokestatic 16, 3), (19, .putfield 22, 3), (22, .aload_n 0, 1), (23, .aload_n 0, 1), (24, .getfield 22, 3), (27, .invokestatic 25, 3), (30, .putfield 28, 3), (33, .return_, 1)]
theorem mi_k14_0 : ∀ q ∈ mi_t14_0, decode cX1_init q.1 = .ok q.2 := List.forall_mem_cons.mpr ⟨dX1_init_0, List.forall_mem_cons.mpr ⟨dX1_init_1, List.forall_mem_cons.mpr ⟨dX1_init_4, List.forall_mem_cons.mpr ⟨dX1_init_5, List.forall_mem_cons.mpr ⟨dX1_init_6, List.forall_mem_cons.mpr ⟨dX1_init_9, List.forall_mem_cons.mpr ⟨dX1_init_10, List.forall_mem_cons.mpr ⟨dX1_init_11, List.forall_mem_cons.mpr ⟨dX1_init_14, List.forall_mem_cons.mpr ⟨dX1_init_15, List.forall_mem_cons.mpr ⟨dX1_init_16, List.forall_mem_cons.mpr ⟨dX1_init_19, List.forall_mem_cons.mpr ⟨dX1_init_22, List.forall_mem_cons.mpr ⟨dX1_init_23, List.forall_mem_cons.mpr ⟨dX1_init_24, List.forall_mem_cons.mpr ⟨dX1_init_27, List.forall_mem_cons.mpr ⟨dX1_init_30, List.forall_mem_cons.mpr ⟨dX1_init_33, fun _ h => absurd h List.not_mem_nil⟩⟩⟩⟩⟩⟩⟩⟩⟩⟩⟩⟩⟩⟩⟩⟩⟩⟩
def mi_t14 : mi_T := [(1000000, mi_t14_0)]
theorem mi_k14 : mi_dok cX1_init mi_t14 := List.forall_mem_cons.mpr ⟨mi_k14_0, fun _ h => absurd h List.not_mem_nil⟩
def mi_m14 : mi_M := (mi_t14, 1, none, 3, 2, 2, yX1_init, cX1_init)
def mi_t15_0 : List (Nat × Instr × Nat) := [(0, .aload_n 0, 1), (1, .getfield 22, 3), (4, .iload_n 1, 1), (5, .invokestatic 31, 3), (8, .ireturn, 1)]
theorem mi_k15_0 : ∀ q ∈ mi_t15_0, decode cX1_bears q.1 = .ok q.2 := List.forall_mem_cons.mpr ⟨dX1_bears_0, List.forall_mem_cons.mpr ⟨dX1_bears_1, List.forall_mem_cons.mpr ⟨dX1_bears_4, List.forall_mem_cons.mpr ⟨dX1_bears_5, List.forall_mem_cons.mpr ⟨dX1_bears_8, fun _ h => absurd h List.not_mem_nil⟩⟩⟩⟩⟩
def mi_t15 : mi_T := [(1000000, mi_t15_0)]
theorem mi_k15 : mi_dok cX1_bears mi_t15 := List.forall_mem_cons.mpr ⟨mi_k15_0, fun _ h => absurd h List.not_mem_nil⟩
def mi_m15 : mi_M := (mi_t15, 1, (some .boolean), 2, 1, 1, yX1_bears, cX1_bears)
def mi_t16_0 : List (Nat × Instr × Nat) := [(0, .iload_n 2, 1), (1, .ifCond .ne 10, 3), (4, .aload_n 0, 1), (5, .getfield 28, 3), (8, .goto 7, 3), (11, .iload_n 2, 1), (12, .invokestatic 35, 3), (15, .iload_n 1, 1), (16, .invokestatic 31, 3), (19, .ireturn, 1)]
theorem mi_k16_0 : ∀ q ∈ mi_t16_0, decode cX1_hasAct q.1 = .ok q.2 := List.forall_mem_cons.mpr ⟨dX1_hasAct_0, List.forall_mem_cons.mpr ⟨dX1_hasAct_1, List.forall_mem_cons.mpr ⟨dX1_hasAct_4, List.forall_mem_cons.mpr ⟨dX1_hasAct_5, List.forall_mem_cons.mpr ⟨dX1_hasAct_8, List.forall_mem_cons.mpr ⟨dX1_hasAct_11, List.forall_mem_cons.mpr ⟨dX1_hasAct_12, List.forall_mem_cons.mpr ⟨dX1_hasAct_15, List.forall_mem_cons.mpr ⟨dX1_hasAct_16, List.forall_mem_cons.mpr ⟨dX1_hasAct_19, fun _ h => absurd h List.not_mem_nil⟩⟩⟩⟩⟩⟩⟩⟩⟩⟩
def mi_t16 : mi_T := [(1000000, mi_t16_0)]
theorem mi_k16 : mi_dok cX1_hasAct mi_t16 := List.forall_mem_cons.mpr ⟨mi_k16_0, fun _ h => absurd h List.not_mem_nil⟩
def mi_m16 : mi_M := (mi_t16, 1, (some .boolean), 3, 1, 2, yX1_hasAct, cX1_hasAct)
def mi_t17_0 : List (Nat × Instr × Nat) := [(0, .aload_n 0, 1), (1, .iconst 3, 1), (2, .invokevirtual 38, 3), (5, .ifCond .eq 5, 3), (8, .iconst 4, 1), (9, .ireturn, 1), (10, .aload_n 0, 1), (11, .iconst 2, 1), (12, .invokevirtual 38, 3), (15, .ifCond .eq 7, 3), (18, .iconst 1, 1), (19, .goto 5, 3), (22, .bipush 6, 2), (24, .ireturn, 1)]
theorem mi_k17_0 : ∀ q ∈ mi_t17_0, decode cX1_actOfTaking q.1 = .ok q.2 := List.forall_mem_cons.mpr ⟨dX1_actOfTaking_0, List.forall_mem_cons.mpr ⟨dX1_actOfTaking_1, List.forall_mem_cons.mpr ⟨dX1_actOfTaking_2, List.forall_mem_cons.mpr ⟨dX1_actOfTaking_5, List.forall_mem_cons.mpr ⟨dX1_actOfTaking_8, List.forall_mem_cons.mpr ⟨dX1_actOfTaking_9, List.forall_mem_cons.mpr ⟨dX1_actOfTaking_10, List.forall_mem_cons.mpr ⟨dX1_actOfTaking_11, List.forall_mem_cons.mpr ⟨dX1_actOfTaking_12, List.forall_mem_cons.mpr ⟨dX1_actOfTaking_15, List.forall_mem_cons.mpr ⟨dX1_actOfTaking_18, List.forall_mem_cons.mpr ⟨dX1_actOfTaking_19, List.forall_mem_cons.mpr ⟨dX1_actOfTaking_22, List.forall_mem_cons.mpr ⟨dX1_actOfTaking_24, fun _ h => absurd h List.not_mem_nil⟩⟩⟩⟩⟩⟩⟩⟩⟩⟩⟩⟩⟩⟩
def mi_t17 : mi_T := [(1000000, mi_t17_0)]
theorem mi_k17 : mi_dok cX1_actOfTaking mi_t17 := List.forall_mem_cons.mpr ⟨mi_k17_0, fun _ h => absurd h List.not_mem_nil⟩
def mi_m17 : mi_M := (mi_t17, 1, (some .int), 1, 1, 0, yX1_actOfTaking, cX1_actOfTaking)
def mi_t18_0 : List (Nat × Instr × Nat) := [(0, .new 42, 3), (3, .dup, 1), (4, .aload_n 1, 1), (5, .invokespecial 44, 3), (8, .astore_n 2, 1), (9, .aload_n 0, 1), (10, .getfield 47, 3), (13, .ifnonnull 11, 3), (16, .aload_n 0, 1), (17, .aload_n 2, 1), (18, .putfield 51, 3), (21, .goto 11, 3), (24, .aload_n 0, 1), (25, .getfield 47, 3), (28, .aload_n 2, 1), (29, .putfield 54, 3), (32, .aload_n 0, 1), (33, .aload_n 2, 1), (34, .putfield 47, 3), (37, .aload_n 0, 1), (38, .dup, 1), (39, .getfield 57, 3), (42, .iconst 1, 1), (43, .iadd, 1), (44, .putfield 57, 3), (47, .aload_n 1, 1), (48, .dup, 1), (49, .getfield 60, 3), (52, .iconst 1, 1), (53, .iadd, 1), (54, .putfield 60, 3), (57, .return_, 1)]
theorem mi_k18_0 : ∀ q ∈ mi_t18_0, decode cX1_addLinkTo q.1 = .ok q.2 := List.forall_mem_cons.mpr ⟨dX1_addLinkTo_0, List.forall_mem_cons.mpr ⟨dX1_addLinkTo_3, List.forall_mem_cons.mpr ⟨dX1_addLinkTo_4, List.forall_mem_cons.mpr ⟨dX1_addLinkTo_5, List.forall_mem_cons.mpr ⟨dX1_addLinkTo_8, List.forall_mem_cons.mpr ⟨dX1_addLinkTo_9, List.forall_mem_cons.mpr ⟨dX1_addLinkTo_10, List.forall_mem_cons.mpr ⟨dX1_addLinkTo_13, List.forall_mem_cons.mpr ⟨dX1_addLinkTo_16, List.forall_mem_cons.mpr ⟨dX1_addLinkTo_17, List.forall_mem_cons.mpr ⟨dX1_addLinkTo_18, List.forall_mem_cons.mpr ⟨dX1_addLinkTo_21, List.forall_mem_cons.mpr ⟨dX1_addLinkTo_24, List.forall_mem_cons.mpr ⟨dX1_addLinkTo_25, List.forall_mem_cons.mpr ⟨dX1_addLinkTo_28, List.forall_mem_cons.mpr ⟨dX1_addLinkTo_29, List.forall_mem_cons.mpr ⟨dX1_addLinkTo_32, List.forall_mem_cons.mpr ⟨dX1_addLinkTo_33, List.forall_mem_cons.mpr ⟨dX1_addLinkTo_34, List.forall_mem_cons.mpr ⟨dX1_addLinkTo_37, List.forall_mem_cons.mpr ⟨dX1_addLinkTo_38, List.forall_mem_cons.mpr ⟨dX1_addLinkTo_39, List.forall_mem_cons.mpr ⟨dX1_addLinkTo_42, List.forall_mem_cons.mpr ⟨dX1_addLinkTo_43, List.forall_mem_cons.mpr ⟨dX1_addLinkTo_44, List.forall_mem_cons.mpr ⟨dX1_addLinkTo_47, List.forall_mem_cons.mpr ⟨dX1_addLinkTo_48, List.forall_mem_cons.mpr ⟨dX1_addLinkTo_49, List.forall_mem_cons.mpr ⟨dX1_addLinkTo_52, List.forall_mem_cons.mpr ⟨dX1_addLinkTo_53, List.forall_mem_cons.mpr ⟨dX1_addLinkTo_54, List.forall_mem_cons.mpr ⟨dX1_addLinkTo_57, fun _ h => absurd h List.not_mem_nil⟩⟩⟩⟩⟩⟩⟩⟩⟩⟩⟩⟩⟩⟩⟩⟩⟩⟩⟩⟩⟩⟩⟩⟩⟩⟩⟩⟩⟩⟩⟩⟩
def mi_t18 : mi_T := [(1000000, mi_t18_0)]
theorem mi_k18 : mi_dok cX1_addLinkTo mi_t18 := List.forall_mem_cons.mpr ⟨mi_k18_0, fun _ h => absurd h List.not_mem_nil⟩
def mi_m18 : mi_M := (mi_t18, 1, none, 3, 1, 1, yX1_addLinkTo, cX1_addLinkTo)
def mi_t19_0 : List (Nat × Instr × Nat) := [(0, .iload_n 0, 1), (1, .ifCond .lt 12, 3), (4, .iload_n 0, 1), (5, .iconst 5, 1), (6, .if_icmp .gt 7, 3), (9, .iconst 1, 1), (10, .goto 4, 3), (13, .iconst 0, 1), (14, .ireturn, 1)]
theorem mi_k19_0 : ∀ q ∈ mi_t19_0, decode cX1_isProperty q.1 = .ok q.2 := List.forall_mem_cons.mpr ⟨dX1_isProperty_0, List.forall_mem_cons.mpr ⟨dX1_isProperty_1, List.forall_mem_cons.mpr ⟨dX1_isProperty_4, List.forall_mem_cons.mpr ⟨dX1_isProperty_5, List.forall_mem_cons.mpr ⟨dX1_isProperty_6, List.forall_mem_cons.mpr ⟨dX1_isProperty_9, List.forall_mem_cons.mpr ⟨dX1_isProperty_10, List.forall_mem_cons.mpr ⟨dX1_isProperty_13, List.forall_mem_cons.mpr ⟨dX1_isProperty_14, fun _ h => absurd h List.not_mem_nil⟩⟩⟩⟩⟩⟩⟩⟩⟩
def mi_t19 : mi_T := [(1000000, mi_t19_0)]
theorem mi_k19 : mi_dok cX1_isProperty mi_t19 := List.forall_mem_cons.mpr ⟨mi_k19_0, fun _ h => absurd h List.not_mem_nil⟩
def mi_m19 : mi_M := (mi_t19, 1, (some .boolean), 1, 0, 1, yX1_isProperty, cX1_isProperty)
def mi_t20_0 : List (Nat × Instr × Nat) := [(0, .iload_n 1, 1), (1, .tableswitch 69 0 5 #[39, 44, 49, 54, 59, 64], 39), (40, .aload_n 0, 1), (41, .getfield 7, 3), (44, .ireturn, 1), (45, .aload_n 0, 1), (46, .getfield 13, 3), (49, .ireturn, 1), (50, .aload_n 0, 1), (51, .getfield 63, 3), (54, .ireturn, 1), (55, .aload_n 0, 1), (56, .getfield 57, 3), (59, .ireturn, 1), (60, .aload_n 0, 1), (61, .getfield 60, 3), (64, .ireturn, 1), (65, .aload_n 0, 1), (66, .getfield 66, 3), (69, .ireturn, 1), (70, .iconst 0, 1), (71, .ireturn, 1)]
theorem mi_k20_0 : ∀ q ∈ mi_t20_0, decode cX1_property q.1 = .ok q.2 := List.forall_mem_cons.mpr ⟨dX1_property_0, List.forall_mem_cons.mpr ⟨dX1_property_1, List.forall_mem_cons.mpr ⟨dX1_property_40, List.forall_mem_cons.mpr ⟨dX1_property_41, List.forall_mem_cons.mpr ⟨dX1_property_44, List.forall_mem_cons.mpr ⟨dX1_property_45, List.forall_mem_cons.mpr ⟨dX1_property_46, List.forall_mem_cons.mpr ⟨dX1_property_49, List.forall_mem_cons.mpr ⟨dX1_property_50, List.forall_mem_cons.mpr ⟨dX1_property_51, List.forall_mem_cons.mpr ⟨dX1_property_54, List.forall_mem_cons.mpr ⟨dX1_property_55, List.forall_mem_cons.mpr ⟨dX1_property_56, List.forall_mem_cons.mpr ⟨dX1_property_59, List.forall_mem_cons.mpr ⟨dX1_property_60, List.forall_mem_cons.mpr ⟨dX1_property_61, List.forall_mem_cons.mpr ⟨dX1_property_64, List.forall_mem_cons.mpr ⟨dX1_property_65, List.forall_mem_cons.mpr ⟨dX1_property_66, List.forall_mem_cons.mpr ⟨dX1_property_69, List.forall_mem_cons.mpr ⟨dX1_property_70, List.forall_mem_cons.mpr ⟨dX1_property_71, fun _ h => absurd h List.not_mem_nil⟩⟩⟩⟩⟩⟩⟩⟩⟩⟩⟩⟩⟩⟩⟩⟩⟩⟩⟩⟩⟩⟩
def mi_t20 : mi_T := [(1000000, mi_t20_0)]
theorem mi_k20 : mi_dok cX1_property mi_t20 := List.forall_mem_cons.mpr ⟨mi_k20_0, fun _ h => absurd h List.not_mem_nil⟩
def mi_m20 : mi_M := (mi_t20, 1, (some .int), 2, 1, 1, yX1_property, cX1_property)
def mi_t21_0 : List (Nat × Instr × Nat) := [(0, .iload_n 0, 1), (1, .ifCond .lt 13, 3), (4, .iload_n 0, 1), (5, .bipush 11, 2), (7, .if_icmp .ge 7, 3), (10, .iconst 1, 1), (11, .goto 4, 3), (14, .iconst 0, 1), (15, .ireturn, 1)]
theorem mi_k21_0 : ∀ q ∈ mi_t21_0, decode cX2_isKind q.1 = .ok q.2 := List.forall_mem_cons.mpr ⟨dX2_isKind_0, List.forall_mem_cons.mpr ⟨dX2_isKind_1, List.forall_mem_cons.mpr ⟨dX2_isKind_4, List.forall_mem_cons.mpr ⟨dX2_isKind_5, List.forall_mem_cons.mpr ⟨dX2_isKind_7, List.forall_mem_cons.mpr ⟨dX2_isKind_10, List.forall_mem_cons.mpr ⟨dX2_isKind_11, List.forall_mem_cons.mpr ⟨dX2_isKind_14, List.forall_mem_cons.mpr ⟨dX2_isKind_15, fun _ h => absurd h List.not_mem_nil⟩⟩⟩⟩⟩⟩⟩⟩⟩
def mi_t21 : mi_T := [(1000000, mi_t21_0)]
theorem mi_k21 : mi_dok cX2_isKind mi_t21 := List.forall_mem_cons.mpr ⟨mi_k21_0, fun _ h => absurd h List.not_mem_nil⟩
def mi_m21 : mi_M := (mi_t21, 2, (some .boolean), 1, 0, 1, yX2_isKind, cX2_isKind)
def mi_t22_0 : List (Nat × Instr × Nat) := [(0, .iload_n 0, 1), (1, .ifCond .lt 13, 3), (4, .iload_n 0, 1), (5, .bipush 12, 2), (7, .if_icmp .ge 7, 3), (10, .iconst 1, 1), (11, .goto 4, 3), (14, .iconst 0, 1), (15, .ireturn, 1)]
theorem mi_k22_0 : ∀ q ∈ mi_t22_0, decode cX2_isAct q.1 = .ok q.2 := List.forall_mem_cons.mpr ⟨dX2_isAct_0, List.forall_mem_cons.mpr ⟨dX2_isAct_1, List.forall_mem_cons.mpr ⟨dX2_isAct_4, List.forall_mem_cons.mpr ⟨dX2_isAct_5, List.forall_mem_cons.mpr ⟨dX2_isAct_7, List.forall_mem_cons.mpr ⟨dX2_isAct_10, List.forall_mem_cons.mpr ⟨dX2_isAct_11, List.forall_mem_cons.mpr ⟨dX2_isAct_14, List.forall_mem_cons.mpr ⟨dX2_isAct_15, fun _ h => absurd h List.not_mem_nil⟩⟩⟩⟩⟩⟩⟩⟩⟩
def mi_t22 : mi_T := [(1000000, mi_t22_0)]
theorem mi_k22 : mi_dok cX2_isAct mi_t22 := List.forall_mem_cons.mpr ⟨mi_k22_0, fun _ h => absurd h List.not_mem_nil⟩
def mi_m22 : mi_M := (mi_t22, 2, (some .boolean), 1, 0, 1, yX2_isAct, cX2_isAct)
def mi_t23_0 : List (Nat × Instr × Nat) := [(0, .iload_n 0, 1), (1, .ifCond .lt 13, 3), (4, .iload_n 0, 1), (5, .bipush 7, 2), (7, .if_icmp .ge 7, 3), (10, .iconst 1, 1), (11, .goto 4, 3), (14, .iconst 0, 1), (15, .ireturn, 1)]
theorem mi_k23_0 : ∀ q ∈ mi_t23_0, decode cX2_isWay q.1 = .ok q.2 := List.forall_mem_cons.mpr ⟨dX2_isWay_0, List.forall_mem_cons.mpr ⟨dX2_isWay_1, List.forall_mem_cons.mpr ⟨dX2_isWay_4, List.forall_mem_cons.mpr ⟨dX2_isWay_5, List.forall_mem_cons.mpr ⟨dX2_isWay_7, List.forall_mem_cons.mpr ⟨dX2_isWay_10, List.forall_mem_cons.mpr ⟨dX2_isWay_11, List.forall_mem_cons.mpr ⟨dX2_isWay_14, List.forall_mem_cons.mpr ⟨dX2_isWay_15, fun _ h => absurd h List.not_mem_nil⟩⟩⟩⟩⟩⟩⟩⟩⟩
def mi_t23 : mi_T := [(1000000, mi_t23_0)]
theorem mi_k23 : mi_dok cX2_isWay mi_t23 := List.forall_mem_cons.mpr ⟨mi_k23_0, fun _ h => absurd h List.not_mem_nil⟩
def mi_m23 : mi_M := (mi_t23, 2, (some .boolean), 1, 0, 1, yX2_isWay, cX2_isWay)
def mi_t24_0 : List (Nat × Instr × Nat) := [(0, .iload_n 0, 1), (1, .ifCond .lt 13, 3), (4, .iload_n 0, 1), (5, .bipush 18, 2), (7, .if_icmp .ge 7, 3), (10, .iconst 1, 1), (11, .goto 4, 3), (14, .iconst 0, 1), (15, .ireturn, 1)]
theorem mi_k24_0 : ∀ q ∈ mi_t24_0, decode cX2_isType q.1 = .ok q.2 := List.forall_mem_cons.mpr ⟨dX2_isType_0, List.forall_mem_cons.mpr ⟨dX2_isType_1, List.forall_mem_cons.mpr ⟨dX2_isType_4, List.forall_mem_cons.mpr ⟨dX2_isType_5, List.forall_mem_cons.mpr ⟨dX2_isType_7, List.forall_mem_cons.mpr ⟨dX2_isType_10, List.forall_mem_cons.mpr ⟨dX2_isType_11, List.forall_mem_cons.mpr ⟨dX2_isType_14, List.forall_mem_cons.mpr ⟨dX2_isType_15, fun _ h => absurd h List.not_mem_nil⟩⟩⟩⟩⟩⟩⟩⟩⟩
def mi_t24 : mi_T := [(1000000, mi_t24_0)]
theorem mi_k24 : mi_dok cX2_isType mi_t24 := List.forall_mem_cons.mpr ⟨mi_k24_0, fun _ h => absurd h List.not_mem_nil⟩
def mi_m24 : mi_M := (mi_t24, 2, (some .boolean), 1, 0, 1, yX2_isType, cX2_isType)
def mi_t25_0 : List (Nat × Instr × Nat) := [(0, .iload_n 0, 1), (1, .iconst 1, 1), (2, .iload_n 1, 1), (3, .ishl, 1), (4, .iand, 1), (5, .ifCond .eq 7, 3), (8, .iconst 1, 1), (9, .goto 4, 3), (12, .iconst 0, 1), (13, .ireturn, 1)]
theorem mi_k25_0 : ∀ q ∈ mi_t25_0, decode cX2_contains q.1 = .ok q.2 := List.forall_mem_cons.mpr ⟨dX2_contains_0, List.forall_mem_cons.mpr ⟨dX2_contains_1, List.forall_mem_cons.mpr ⟨dX2_contains_2, List.forall_mem_cons.mpr ⟨dX2_contains_3, List.forall_mem_cons.mpr ⟨dX2_contains_4, List.forall_mem_cons.mpr ⟨dX2_contains_5, List.forall_mem_cons.mpr ⟨dX2_contains_8, List.forall_mem_cons.mpr ⟨dX2_contains_9, List.forall_mem_cons.mpr ⟨dX2_contains_12, List.forall_mem_cons.mpr ⟨dX2_contains_13, fun _ h => absurd h List.not_mem_nil⟩⟩⟩⟩⟩⟩⟩⟩⟩⟩
def mi_t25 : mi_T := [(1000000, mi_t25_0)]
theorem mi_k25 : mi_dok cX2_contains mi_t25 := List.forall_mem_cons.mpr ⟨mi_k25_0, fun _ h => absurd h List.not_mem_nil⟩
def mi_m25 : mi_M := (mi_t25, 2, (some .boolean), 2, 0, 2, yX2_contains, cX2_contains)
def mi_t26_0 : List (Nat × Instr × Nat) := [(0, .iload_n 0, 1), (1, .invokestatic 11, 3), (4, .ifCond .eq 11, 3), (7, .getstatic 15, 3), (10, .iload_n 0, 1), (11, .iaload, 1), (12, .goto 4, 3), (15, .iconst (-1), 1), (16, .ireturn, 1)]
theorem mi_k26_0 : ∀ q ∈ mi_t26_0, decode cX2_parentOf q.1 = .ok q.2 := List.forall_mem_cons.mpr ⟨dX2_parentOf_0, List.forall_mem_cons.mpr ⟨dX2_parentOf_1, List.forall_mem_cons.mpr ⟨dX2_parentOf_4, List.forall_mem_cons.mpr ⟨dX2_parentOf_7, List.forall_mem_cons.mpr ⟨dX2_parentOf_10, List.forall_mem_cons.mpr ⟨dX2_parentOf_11, List.forall_mem_cons.mpr ⟨dX2_parentOf_12, List.forall_mem_cons.mpr ⟨dX2_parentOf_15, List.forall_mem_cons.mpr ⟨dX2_parentOf_16, fun _ h => absurd h List.not_mem_nil⟩⟩⟩⟩⟩⟩⟩⟩⟩
def mi_t26 : mi_T := [(1000000, mi_t26_0)]
theorem mi_k26 : mi_dok cX2_parentOf mi_t26 := List.forall_mem_cons.mpr ⟨mi_k26_0, fun _ h => absurd h List.not_mem_nil⟩
def mi_m26 : mi_M := (mi_t26, 2, (some .int), 1, 0, 1, yX2_parentOf, cX2_parentOf)
def mi_t27_0 : List (Nat × Instr × Nat) := [(0, .iload_n 0, 1), (1, .invokestatic 11, 3), (4, .ifCond .eq 11, 3), (7, .getstatic 19, 3), (10, .iload_n 0, 1), (11, .iaload, 1), (12, .goto 4, 3), (15, .iconst 0, 1), (16, .ireturn, 1)]
theorem mi_k27_0 : ∀ q ∈ mi_t27_0, decode cX2_namedBy q.1 = .ok q.2 := List.forall_mem_cons.mpr ⟨dX2_namedBy_0, List.forall_mem_cons.mpr ⟨dX2_namedBy_1, List.forall_mem_cons.mpr ⟨dX2_namedBy_4, List.forall_mem_cons.mpr ⟨dX2_namedBy_7, List.forall_mem_cons.mpr ⟨dX2_namedBy_10, List.forall_mem_cons.mpr ⟨dX2_namedBy_11, List.forall_mem_cons.mpr ⟨dX2_namedBy_12, List.forall_mem_cons.mpr ⟨dX2_namedBy_15, List.forall_mem_cons.mpr ⟨dX2_namedBy_16, fun _ h => absurd h List.not_mem_nil⟩⟩⟩⟩⟩⟩⟩⟩⟩
def mi_t27 : mi_T := [(1000000, mi_t27_0)]
theorem mi_k27 : mi_dok cX2_namedBy mi_t27 := List.forall_mem_cons.mpr ⟨mi_k27_0, fun _ h => absurd h List.not_mem_nil⟩
def mi_m27 : mi_M := (mi_t27, 2, (some .int), 1, 0, 1, yX2_namedBy, cX2_namedBy)
def mi_t28_0 : List (Nat × Instr × Nat) := [(0, .iload_n 0, 1), (1, .invokestatic 22, 3), (4, .ifCond .eq 11, 3), (7, .getstatic 25, 3), (10, .iload_n 0, 1), (11, .iaload, 1), (12, .goto 4, 3), (15, .iconst 0, 1), (16, .ireturn, 1)]
theorem mi_k28_0 : ∀ q ∈ mi_t28_0, decode cX2_actsOfWay q.1 = .ok q.2 := List.forall_mem_cons.mpr ⟨dX2_actsOfWay_0, List.forall_mem_cons.mpr ⟨dX2_actsOfWay_1, List.forall_mem_cons.mpr ⟨dX2_actsOfWay_4, List.forall_mem_cons.mpr ⟨dX2_actsOfWay_7, List.forall_mem_cons.mpr ⟨dX2_actsOfWay_10, List.forall_mem_cons.mpr ⟨dX2_actsOfWay_11, List.forall_mem_cons.mpr ⟨dX2_actsOfWay_12, List.forall_mem_cons.mpr ⟨dX2_actsOfWay_15, List.forall_mem_cons.mpr ⟨dX2_actsOfWay_16, fun _ h => absurd h List.not_mem_nil⟩⟩⟩⟩⟩⟩⟩⟩⟩
def mi_t28 : mi_T := [(1000000, mi_t28_0)]
theorem mi_k28 : mi_dok cX2_actsOfWay mi_t28 := List.forall_mem_cons.mpr ⟨mi_k28_0, fun _ h => absurd h List.not_mem_nil⟩
def mi_m28 : mi_M := (mi_t28, 2, (some .int), 1, 0, 1, yX2_actsOfWay, cX2_actsOfWay)
def mi_t29_0 : List (Nat × Instr × Nat) := [(0, .iload_n 0, 1), (1, .invokestatic 11, 3), (4, .ifCond .eq 23, 3), (7, .iload_n 1, 1), (8, .invokestatic 28, 3), (11, .ifCond .eq 16, 3), (14, .getstatic 31, 3), (17, .iload_n 0, 1), (18, .bipush 12, 2), (20, .imul, 1), (21, .iload_n 1, 1), (22, .iadd, 1), (23, .iaload, 1), (24, .goto 4, 3), (27, .iconst 0, 1), (28, .ireturn, 1)]
theorem mi_k29_0 : ∀ q ∈ mi_t29_0, decode cX2_bodyOf q.1 = .ok q.2 := List.forall_mem_cons.mpr ⟨dX2_bodyOf_0, List.forall_mem_cons.mpr ⟨dX2_bodyOf_1, List.forall_mem_cons.mpr ⟨dX2_bodyOf_4, List.forall_mem_cons.mpr ⟨dX2_bodyOf_7, List.forall_mem_cons.mpr ⟨dX2_bodyOf_8, List.forall_mem_cons.mpr ⟨dX2_bodyOf_11, List.forall_mem_cons.mpr ⟨dX2_bodyOf_14, List.forall_mem_cons.mpr ⟨dX2_bodyOf_17, List.forall_mem_cons.mpr ⟨dX2_bodyOf_18, List.forall_mem_cons.mpr ⟨dX2_bodyOf_20, List.forall_mem_cons.mpr ⟨dX2_bodyOf_21, List.forall_mem_cons.mpr ⟨dX2_bodyOf_22, List.forall_mem_cons.mpr ⟨dX2_bodyOf_23, List.forall_mem_cons.mpr ⟨dX2_bodyOf_24, List.forall_mem_cons.mpr ⟨dX2_bodyOf_27, List.forall_mem_cons.mpr ⟨dX2_bodyOf_28, fun _ h => absurd h List.not_mem_nil⟩⟩⟩⟩⟩⟩⟩⟩⟩⟩⟩⟩⟩⟩⟩⟩
def mi_t29 : mi_T := [(1000000, mi_t29_0)]
theorem mi_k29 : mi_dok cX2_bodyOf mi_t29 := List.forall_mem_cons.mpr ⟨mi_k29_0, fun _ h => absurd h List.not_mem_nil⟩
def mi_m29 : mi_M := (mi_t29, 2, (some .int), 2, 0, 2, yX2_bodyOf, cX2_bodyOf)
def mi_t30_0 : List (Nat × Instr × Nat) := [(0, .iload_n 0, 1), (1, .iconst 2, 1), (2, .isub, 1), (3, .bipush 13, 2), (5, .iadd, 1), (6, .ireturn, 1)]
theorem mi_k30_0 : ∀ q ∈ mi_t30_0, decode cX2_faceOfWay q.1 = .ok q.2 := List.forall_mem_cons.mpr ⟨dX2_faceOfWay_0, List.forall_mem_cons.mpr ⟨dX2_faceOfWay_1, List.forall_mem_cons.mpr ⟨dX2_faceOfWay_2, List.forall_mem_cons.mpr ⟨dX2_faceOfWay_3, List.forall_mem_cons.mpr ⟨dX2_faceOfWay_5, List.forall_mem_cons.mpr ⟨dX2_faceOfWay_6, fun _ h => absurd h List.not_mem_nil⟩⟩⟩⟩⟩⟩
def mi_t30 : mi_T := [(1000000, mi_t30_0)]
theorem mi_k30 : mi_dok cX2_faceOfWay mi_t30 := List.forall_mem_cons.mpr ⟨mi_k30_0, fun _ h => absurd h List.not_mem_nil⟩
def mi_m30 : mi_M := (mi_t30, 2, (some .int), 1, 0, 1, yX2_faceOfWay, cX2_faceOfWay)
def mi_t31_0 : List (Nat × Instr × Nat) := [(0, .iconst 0, 1), (1, .istore_n 1, 1), (2, .iload_n 0, 1), (3, .istore_n 2, 1), (4, .iconst 0, 1), (5, .istore_n 3, 1), (6, .iload_n 3, 1), (7, .bipush 18, 2), (9, .if_icmp .ge 26, 3), (12, .iload_n 2, 1), (13, .iconst (-1), 1), (14, .if_icmp .eq 21, 3), (17, .iload_n 1, 1), (18, .iload_n 2, 1), (19, .invokestatic 34, 3), (22, .ior, 1), (23, .istore_n 1, 1), (24, .iload_n 2, 1), (25, .invokestatic 38, 3), (28, .istore_n 2, 1), (29, .iinc 3 1, 3), (32, .goto (-26), 3), (35, .iload_n 1, 1), (36, .istore_n 3, 1), (37, .iconst 2, 1), (38, .istore 4, 2), (40, .iload 4, 2), (42, .bipush 7, 2), (44, .if_icmp .ge 29, 3), (47, .iload_n 1, 1), (48, .iload 4, 2), (50, .invokestatic 41, 3), (53, .ifCond .eq 14, 3), (56, .iload_n 3, 1), (57, .iload 4, 2), (59, .invokestatic 45, 3), (62, .invokestatic 34, 3), (65, .ior, 1), (66, .istore_n 3, 1), (67, .iinc 4 1, 3)]
theorem mi_k31_0 : ∀ q ∈ mi_t31_0, decode cX2_facesOf q.1 = .ok q.2 := List.forall_mem_cons.mpr ⟨dX2_facesOf_0, List.forall_mem_cons.mpr ⟨dX2_facesOf_1, List.forall_mem_cons.mpr ⟨dX2_facesOf_2, List.forall_mem_cons.mpr ⟨dX2_facesOf_3, List.forall_mem_cons.mpr ⟨dX2_facesOf_4, List.forall_mem_cons.mpr ⟨dX2_facesOf_5, List.forall_mem_cons.mpr ⟨dX2_facesOf_6, List.forall_mem_cons.mpr ⟨dX2_facesOf_7, List.forall_mem_cons.mpr ⟨dX2_facesOf_9, List.forall_mem_cons.mpr ⟨dX2_facesOf_12, List.forall_mem_cons.mpr ⟨dX2_facesOf_13, List.forall_mem_cons.mpr ⟨dX2_facesOf_14, List.forall_mem_cons.mpr ⟨dX2_facesOf_17, List.forall_mem_cons.mpr ⟨dX2_facesOf_18, List.forall_mem_cons.mpr ⟨dX2_facesOf_19, List.forall_mem_cons.mpr ⟨dX2_facesOf_22, List.forall_mem_cons.mpr ⟨dX2_facesOf_23, List.forall_mem_cons.mpr ⟨dX2_facesOf_24, List.forall_mem_cons.mpr ⟨dX2_facesOf_25, List.forall_mem_cons.mpr ⟨dX2_facesOf_28, List.forall_mem_cons.mpr ⟨dX2_facesOf_29, List.forall_mem_cons.mpr ⟨dX2_facesOf_32, List.forall_mem_cons.mpr ⟨dX2_facesOf_35, List.forall_mem_cons.mpr ⟨dX2_facesOf_36, List.forall_mem_cons.mpr ⟨dX2_facesOf_37, List.forall_mem_cons.mpr ⟨dX2_facesOf_38, List.forall_mem_cons.mpr ⟨dX2_facesOf_40, List.forall_mem_cons.mpr ⟨dX2_facesOf_42, List.forall_mem_cons.mpr ⟨dX2_facesOf_44, List.forall_mem_cons.mpr ⟨dX2_facesOf_47, List.forall_mem_cons.mpr ⟨dX2_facesOf_48, List.forall_mem_cons.mpr ⟨dX2_facesOf_50, List.forall_mem_cons.mpr ⟨dX2_facesOf_53, List.forall_mem_cons.mpr ⟨dX2_facesOf_56, List.forall_mem_cons.mpr ⟨dX2_facesOf_57, List.forall_mem_cons.mpr ⟨dX2_facesOf_59, List.forall_mem_cons.mpr ⟨dX2_facesOf_62, List.forall_mem_cons.mpr ⟨dX2_facesOf_65, List.forall_mem_cons.mpr ⟨dX2_facesOf_66, List.forall_mem_cons.mpr ⟨dX2_facesOf_67, fun _ h => absurd h List.not_mem_nil⟩⟩⟩⟩⟩⟩⟩⟩⟩⟩⟩⟩⟩⟩⟩⟩⟩⟩⟩⟩⟩⟩⟩⟩⟩⟩⟩⟩⟩⟩⟩⟩⟩⟩⟩⟩⟩⟩⟩⟩
def mi_t31_1 : List (Nat × Instr × Nat) := [(70, .goto (-30), 3), (73, .iload_n 3, 1), (74, .ireturn, 1)]
theorem mi_k31_1 : ∀ q ∈ mi_t31_1, decode cX2_facesOf q.1 = .ok q.2 := List.forall_mem_cons.mpr ⟨dX2_facesOf_70, List.forall_mem_cons.mpr ⟨dX2_facesOf_73, List.forall_mem_cons.mpr ⟨dX2_facesOf_74, fun _ h => absurd h List.not_mem_nil⟩⟩⟩
def mi_t31 : mi_T := [(70, mi_t31_0), (1000000, mi_t31_1)]
theorem mi_k31 : mi_dok cX2_facesOf mi_t31 := List.forall_mem_cons.mpr ⟨mi_k31_0, List.forall_mem_cons.mpr ⟨mi_k31_1, fun _ h => absurd h List.not_mem_nil⟩⟩
def mi_m31 : mi_M := (mi_t31, 2, (some .int), 5, 0, 1, yX2_facesOf, cX2_facesOf)
def mi_t32_0 : List (Nat × Instr × Nat) := [(0, .iconst 3, 1), (1, .iload_n 0, 1), (2, .invokestatic 48, 3), (5, .ior, 1), (6, .ireturn, 1)]
theorem mi_k32_0 : ∀ q ∈ mi_t32_0, decode cX2_waysOf q.1 = .ok q.2 := List.forall_mem_cons.mpr ⟨dX2_waysOf_0, List.forall_mem_cons.mpr ⟨dX2_waysOf_1, List.forall_mem_cons.mpr ⟨dX2_waysOf_2, List.forall_mem_cons.mpr ⟨dX2_waysOf_5, List.forall_mem_cons.mpr ⟨dX2_waysOf_6, fun _ h => absurd h List.not_mem_nil⟩⟩⟩⟩⟩
def mi_t32 : mi_T := [(1000000, mi_t32_0)]
theorem mi_k32 : mi_dok cX2_waysOf mi_t32 := List.forall_mem_cons.mpr ⟨mi_k32_0, fun _ h => absurd h List.not_mem_nil⟩
def mi_m32 : mi_M := (mi_t32, 2, (some .int), 1, 0, 1, yX2_waysOf, cX2_waysOf)
def mi_t33_0 : List (Nat × Instr × Nat) := [(0, .iconst 0, 1), (1, .istore_n 1, 1), (2, .iconst 0, 1), (3, .istore_n 2, 1), (4, .iload_n 2, 1), (5, .bipush 7, 2), (7, .if_icmp .ge 24, 3), (10, .iload_n 0, 1), (11, .iload_n 2, 1), (12, .invokestatic 41, 3), (15, .ifCond .eq 10, 3), (18, .iload_n 1, 1), (19, .iload_n 2, 1), (20, .invokestatic 51, 3), (23, .ior, 1), (24, .istore_n 1, 1), (25, .iinc 2 1, 3), (28, .goto (-24), 3), (31, .iload_n 1, 1), (32, .ireturn, 1)]
theorem mi_k33_0 : ∀ q ∈ mi_t33_0, decode cX2_actsOfWays q.1 = .ok q.2 := List.forall_mem_cons.mpr ⟨dX2_actsOfWays_0, List.forall_mem_cons.mpr ⟨dX2_actsOfWays_1, List.forall_mem_cons.mpr ⟨dX2_actsOfWays_2, List.forall_mem_cons.mpr ⟨dX2_actsOfWays_3, List.forall_mem_cons.mpr ⟨dX2_actsOfWays_4, List.forall_mem_cons.mpr ⟨dX2_actsOfWays_5, List.forall_mem_cons.mpr ⟨dX2_actsOfWays_7, List.forall_mem_cons.mpr ⟨dX2_actsOfWays_10, List.forall_mem_cons.mpr ⟨dX2_actsOfWays_11, List.forall_mem_cons.mpr ⟨dX2_actsOfWays_12, List.forall_mem_cons.mpr ⟨dX2_actsOfWays_15, List.forall_mem_cons.mpr ⟨dX2_actsOfWays_18, List.forall_mem_cons.mpr ⟨dX2_actsOfWays_19, List.forall_mem_cons.mpr ⟨dX2_actsOfWays_20, List.forall_mem_cons.mpr ⟨dX2_actsOfWays_23, List.forall_mem_cons.mpr ⟨dX2_actsOfWays_24, List.forall_mem_cons.mpr ⟨dX2_actsOfWays_25, List.forall_mem_cons.mpr ⟨dX2_actsOfWays_28, List.forall_mem_cons.mpr ⟨dX2_actsOfWays_31, List.forall_mem_cons.mpr ⟨dX2_actsOfWays_32, fun _ h => absurd h List.not_mem_nil⟩⟩⟩⟩⟩⟩⟩⟩⟩⟩⟩⟩⟩⟩⟩⟩⟩⟩⟩⟩
def mi_t33 : mi_T := [(1000000, mi_t33_0)]
theorem mi_k33 : mi_dok cX2_actsOfWays mi_t33 := List.forall_mem_cons.mpr ⟨mi_k33_0, fun _ h => absurd h List.not_mem_nil⟩
def mi_m33 : mi_M := (mi_t33, 2, (some .int), 3, 0, 1, yX2_actsOfWays, cX2_actsOfWays)
def mi_t34_0 : List (Nat × Instr × Nat) := [(0, .iload_n 0, 1), (1, .istore_n 2, 1), (2, .iconst 0, 1), (3, .istore_n 3, 1), (4, .iload_n 3, 1), (5, .bipush 18, 2), (7, .if_icmp .ge 34, 3), (10, .iload_n 2, 1), (11, .iconst (-1), 1), (12, .if_icmp .eq 29, 3), (15, .iload_n 2, 1), (16, .iload_n 1, 1), (17, .invokestatic 54, 3), (20, .istore 4, 2), (22, .iload 4, 2), (24, .ifCond .eq 6, 3), (27, .iload 4, 2), (29, .ireturn, 1), (30, .iload_n 2, 1), (31, .invokestatic 38, 3), (34, .istore_n 2, 1), (35, .iinc 3 1, 3), (38, .goto (-34), 3), (41, .iload_n 0, 1), (42, .invokestatic 48, 3), (45, .istore_n 3, 1), (46, .bipush 6, 2), (48, .istore 4, 2), (50, .iload 4, 2), (52, .iconst 2, 1), (53, .if_icmp .lt 41, 3), (56, .iload_n 3, 1), (57, .iload 4, 2), (59, .invokestatic 41, 3), (62, .ifCond .eq 15, 3), (65, .iload 4, 2), (67, .invokestatic 45, 3), (70, .iload_n 1, 1), (71, .invokestatic 54, 3), (74, .goto 4, 3)]
theorem mi_k34_0 : ∀ q ∈ mi_t34_0, decode cX2_selected q.1 = .ok q.2 := List.forall_mem_cons.mpr ⟨dX2_selected_0, List.forall_mem_cons.mpr ⟨dX2_selected_1, List.forall_mem_cons.mpr ⟨dX2_selected_2, List.forall_mem_cons.mpr ⟨dX2_selected_3, List.forall_mem_cons.mpr ⟨dX2_selected_4, List.forall_mem_cons.mpr ⟨dX2_selected_5, List.forall_mem_cons.mpr ⟨dX2_selected_7, List.forall_mem_cons.mpr ⟨dX2_selected_10, List.forall_mem_cons.mpr ⟨dX2_selected_11, List.forall_mem_cons.mpr ⟨dX2_selected_12, List.forall_mem_cons.mpr ⟨dX2_selected_15, List.forall_mem_cons.mpr ⟨dX2_selected_16, List.forall_mem_cons.mpr ⟨dX2_selected_17, List.forall_mem_cons.mpr ⟨dX2_selected_20, List.forall_mem_cons.mpr ⟨dX2_selected_22, List.forall_mem_cons.mpr ⟨dX2_selected_24, List.forall_mem_cons.mpr ⟨dX2_selected_27, List.forall_mem_cons.mpr ⟨dX2_selected_29, List.forall_mem_cons.mpr ⟨dX2_selected_30, List.forall_mem_cons.mpr ⟨dX2_selected_31, List.forall_mem_cons.mpr ⟨dX2_selected_34, List.forall_mem_cons.mpr ⟨dX2_selected_35, List.forall_mem_cons.mpr ⟨dX2_selected_38, List.forall_mem_cons.mpr ⟨dX2_selected_41, List.forall_mem_cons.mpr ⟨dX2_selected_42, List.forall_mem_cons.mpr ⟨dX2_selected_45, List.forall_mem_cons.mpr ⟨dX2_selected_46, List.forall_mem_cons.mpr ⟨dX2_selected_48, List.forall_mem_cons.mpr ⟨dX2_selected_50, List.forall_mem_cons.mpr ⟨dX2_selected_52, List.forall_mem_cons.mpr ⟨dX2_selected_53, List.forall_mem_cons.mpr ⟨dX2_selected_56, List.forall_mem_cons.mpr ⟨dX2_selected_57, List.forall_mem_cons.mpr ⟨dX2_selected_59, List.forall_mem_cons.mpr ⟨dX2_selected_62, List.forall_mem_cons.mpr ⟨dX2_selected_65, List.forall_mem_cons.mpr ⟨dX2_selected_67, List.forall_mem_cons.mpr ⟨dX2_selected_70, List.forall_mem_cons.mpr ⟨dX2_selected_71, List.forall_mem_cons.mpr ⟨dX2_selected_74, fun _ h => absurd h List.not_mem_nil⟩⟩⟩⟩⟩⟩⟩⟩⟩⟩⟩⟩⟩⟩⟩⟩⟩⟩⟩⟩⟩⟩⟩⟩⟩⟩⟩⟩⟩⟩⟩⟩⟩⟩⟩⟩⟩⟩⟩⟩
def mi_t34_1 : List (Nat × Instr × Nat) := [(77, .iconst 0, 1), (78, .istore 5, 2), (80, .iload 5, 2), (82, .ifCond .eq 6, 3), (85, .iload 5, 2), (87, .ireturn, 1), (88, .iinc 4 (-1), 3), (91, .goto (-41), 3), (94, .iconst 0, 1), (95, .ireturn, 1)]
theorem mi_k34_1 : ∀ q ∈ mi_t34_1, decode cX2_selected q.1 = .ok q.2 := List.forall_mem_cons.mpr ⟨dX2_selected_77, List.forall_mem_cons.mpr ⟨dX2_selected_78, List.forall_mem_cons.mpr ⟨dX2_selected_80, List.forall_mem_cons.mpr ⟨dX2_selected_82, List.forall_mem_cons.mpr ⟨dX2_selected_85, List.forall_mem_cons.mpr ⟨dX2_selected_87, List.forall_mem_cons.mpr ⟨dX2_selected_88, List.forall_mem_cons.mpr ⟨dX2_selected_91, List.forall_mem_cons.mpr ⟨dX2_selected_94, List.forall_mem_cons.mpr ⟨dX2_selected_95, fun _ h => absurd h List.not_mem_nil⟩⟩⟩⟩⟩⟩⟩⟩⟩⟩
def mi_t34 : mi_T := [(77, mi_t34_0), (1000000, mi_t34_1)]
theorem mi_k34 : mi_dok cX2_selected mi_t34 := List.forall_mem_cons.mpr ⟨mi_k34_0, List.forall_mem_cons.mpr ⟨mi_k34_1, fun _ h => absurd h List.not_mem_nil⟩⟩
def mi_m34 : mi_M := (mi_t34, 2, (some .int), 6, 0, 2, yX2_selected, cX2_selected)
def mi_t35_0 : List (Nat × Instr × Nat) := [(0, .aload_n 0, 1), (1, .invokespecial 1, 3), (4, .aload_n 0, 1), (5, .aload_n 1, 1), (6, .putfield 7, 3), (9, .return_, 1)]
theorem mi_k35_0 : ∀ q ∈ mi_t35_0, decode cX3_init q.1 = .ok q.2 := List.forall_mem_cons.mpr ⟨dX3_init_0, List.forall_mem_cons.mpr ⟨dX3_init_1, List.forall_mem_cons.mpr ⟨dX3_init_4, List.forall_mem_cons.mpr ⟨dX3_init_5, List.forall_mem_cons.mpr ⟨dX3_init_6, List.forall_mem_cons.mpr ⟨dX3_init_9, fun _ h => absurd h List.not_mem_nil⟩⟩⟩⟩⟩⟩
def mi_t35 : mi_T := [(1000000, mi_t35_0)]
theorem mi_k35 : mi_dok cX3_init mi_t35 := List.forall_mem_cons.mpr ⟨mi_k35_0, fun _ h => absurd h List.not_mem_nil⟩
def mi_m35 : mi_M := (mi_t35, 3, none, 2, 2, 1, yX3_init, cX3_init)
def mi_t36_0 : List (Nat × Instr × Nat) := [(0, .aload_n 0, 1), (1, .invokespecial 1, 3), (4, .aload_n 0, 1), (5, .new 7, 3), (8, .dup, 1), (9, .invokespecial 9, 3), (12, .putfield 10, 3), (15, .aload_n 0, 1), (16, .sipush 300, 3), (19, .anewarray 16, 3), (22, .putfield 18, 3), (25, .aload_n 0, 1), (26, .sipush 300, 3), (29, .anewarray 16, 3), (32, .putfield 22, 3), (35, .return_, 1)]
theorem mi_k36_0 : ∀ q ∈ mi_t36_0, decode cX4_init q.1 = .ok q.2 := List.forall_mem_cons.mpr ⟨dX4_init_0, List.forall_mem_cons.mpr ⟨dX4_init_1, List.forall_mem_cons.mpr ⟨dX4_init_4, List.forall_mem_cons.mpr ⟨dX4_init_5, List.forall_mem_cons.mpr ⟨dX4_init_8, List.forall_mem_cons.mpr ⟨dX4_init_9, List.forall_mem_cons.mpr ⟨dX4_init_12, List.forall_mem_cons.mpr ⟨dX4_init_15, List.forall_mem_cons.mpr ⟨dX4_init_16, List.forall_mem_cons.mpr ⟨dX4_init_19, List.forall_mem_cons.mpr ⟨dX4_init_22, List.forall_mem_cons.mpr ⟨dX4_init_25, List.forall_mem_cons.mpr ⟨dX4_init_26, List.forall_mem_cons.mpr ⟨dX4_init_29, List.forall_mem_cons.mpr ⟨dX4_init_32, List.forall_mem_cons.mpr ⟨dX4_init_35, fun _ h => absurd h List.not_mem_nil⟩⟩⟩⟩⟩⟩⟩⟩⟩⟩⟩⟩⟩⟩⟩⟩
def mi_t36 : mi_T := [(1000000, mi_t36_0)]
theorem mi_k36 : mi_dok cX4_init mi_t36 := List.forall_mem_cons.mpr ⟨mi_k36_0, fun _ h => absurd h List.not_mem_nil⟩
def mi_m36 : mi_M := (mi_t36, 4, none, 1, 2, 0, yX4_init, cX4_init)
def mi_t37_0 : List (Nat × Instr × Nat) := [(0, .iload_n 1, 1), (1, .invokestatic 25, 3), (4, .ifCond .ne 10, 3), (7, .aload_n 0, 1), (8, .iconst 1, 1), (9, .putfield 31, 3), (12, .iconst (-1), 1), (13, .ireturn, 1), (14, .aload_n 0, 1), (15, .getfield 35, 3), (18, .sipush 300, 3), (21, .if_icmp .lt 10, 3), (24, .aload_n 0, 1), (25, .iconst 5, 1), (26, .putfield 31, 3), (29, .iconst (-1), 1), (30, .ireturn, 1), (31, .aload_n 0, 1), (32, .getfield 18, 3), (35, .aload_n 0, 1), (36, .getfield 35, 3), (39, .new 16, 3), (42, .dup, 1), (43, .iload_n 1, 1), (44, .iload_n 2, 1), (45, .invokespecial 38, 3), (48, .aastore, 1), (49, .aload_n 0, 1), (50, .dup, 1), (51, .getfield 35, 3), (54, .iconst 1, 1), (55, .iadd, 1), (56, .putfield 35, 3), (59, .aload_n 0, 1), (60, .iconst 0, 1), (61, .putfield 31, 3), (64, .aload_n 0, 1), (65, .getfield 35, 3), (68, .iconst 1, 1), (69, .isub, 1)]
theorem mi_k37_0 : ∀ q ∈ mi_t37_0, decode cX4_device q.1 = .ok q.2 := List.forall_mem_cons.mpr ⟨dX4_device_0, List.forall_mem_cons.mpr ⟨dX4_device_1, List.forall_mem_cons.mpr ⟨dX4_device_4, List.forall_mem_cons.mpr ⟨dX4_device_7, List.forall_mem_cons.mpr ⟨dX4_device_8, List.forall_mem_cons.mpr ⟨dX4_device_9, List.forall_mem_cons.mpr ⟨dX4_device_12, List.forall_mem_cons.mpr ⟨dX4_device_13, List.forall_mem_cons.mpr ⟨dX4_device_14, List.forall_mem_cons.mpr ⟨dX4_device_15, List.forall_mem_cons.mpr ⟨dX4_device_18, List.forall_mem_cons.mpr ⟨dX4_device_21, List.forall_mem_cons.mpr ⟨dX4_device_24, List.forall_mem_cons.mpr ⟨dX4_device_25, List.forall_mem_cons.mpr ⟨dX4_device_26, List.forall_mem_cons.mpr ⟨dX4_device_29, List.forall_mem_cons.mpr ⟨dX4_device_30, List.forall_mem_cons.mpr ⟨dX4_device_31, List.forall_mem_cons.mpr ⟨dX4_device_32, List.forall_mem_cons.mpr ⟨dX4_device_35, List.forall_mem_cons.mpr ⟨dX4_device_36, List.forall_mem_cons.mpr ⟨dX4_device_39, List.forall_mem_cons.mpr ⟨dX4_device_42, List.forall_mem_cons.mpr ⟨dX4_device_43, List.forall_mem_cons.mpr ⟨dX4_device_44, List.forall_mem_cons.mpr ⟨dX4_device_45, List.forall_mem_cons.mpr ⟨dX4_device_48, List.forall_mem_cons.mpr ⟨dX4_device_49, List.forall_mem_cons.mpr ⟨dX4_device_50, List.forall_mem_cons.mpr ⟨dX4_device_51, List.forall_mem_cons.mpr ⟨dX4_device_54, List.forall_mem_cons.mpr ⟨dX4_device_55, List.forall_mem_cons.mpr ⟨dX4_device_56, List.forall_mem_cons.mpr ⟨dX4_device_59, List.forall_mem_cons.mpr ⟨dX4_device_60, List.forall_mem_cons.mpr ⟨dX4_device_61, List.forall_mem_cons.mpr ⟨dX4_device_64, List.forall_mem_cons.mpr ⟨dX4_device_65, List.forall_mem_cons.mpr ⟨dX4_device_68, List.forall_mem_cons.mpr ⟨dX4_device_69, fun _ h => absurd h List.not_mem_nil⟩⟩⟩⟩⟩⟩⟩⟩⟩⟩⟩⟩⟩⟩⟩⟩⟩⟩⟩⟩⟩⟩⟩⟩⟩⟩⟩⟩⟩⟩⟩⟩⟩⟩⟩⟩⟩⟩⟩⟩
def mi_t37_1 : List (Nat × Instr × Nat) := [(70, .ireturn, 1)]
theorem mi_k37_1 : ∀ q ∈ mi_t37_1, decode cX4_device q.1 = .ok q.2 := List.forall_mem_cons.mpr ⟨dX4_device_70, fun _ h => absurd h List.not_mem_nil⟩
def mi_t37 : mi_T := [(70, mi_t37_0), (1000000, mi_t37_1)]
theorem mi_k37 : mi_dok cX4_device mi_t37 := List.forall_mem_cons.mpr ⟨mi_k37_0, List.forall_mem_cons.mpr ⟨mi_k37_1, fun _ h => absurd h List.not_mem_nil⟩⟩
def mi_m37 : mi_M := (mi_t37, 4, (some .int), 3, 1, 2, yX4_device, cX4_device)
def mi_t38_0 : List (Nat × Instr × Nat) := [(0, .aload_n 0, 1), (1, .iload_n 1, 1), (2, .invokevirtual 41, 3), (5, .astore 5, 2), (7, .aload_n 0, 1), (8, .aload 5, 2), (10, .iload_n 2, 1), (11, .iload_n 3, 1), (12, .invokestatic 45, 3), (15, .putfield 31, 3), (18, .aload 5, 2), (20, .ifnull 10, 3), (23, .aload_n 0, 1), (24, .getfield 31, 3), (27, .ifCond .eq 5, 3), (30, .iconst 0, 1), (31, .ireturn, 1), (32, .aload_n 0, 1), (33, .getfield 10, 3), (36, .invokevirtual 49, 3), (39, .aload_n 0, 1), (40, .getfield 10, 3), (43, .aload 5, 2), (45, .iload_n 2, 1), (46, .iload 4, 2), (48, .iconst 0, 1), (49, .invokevirtual 52, 3), (52, .ireturn, 1)]
theorem mi_k38_0 : ∀ q ∈ mi_t38_0, decode cX4_call q.1 = .ok q.2 := List.forall_mem_cons.mpr ⟨dX4_call_0, List.forall_mem_cons.mpr ⟨dX4_call_1, List.forall_mem_cons.mpr ⟨dX4_call_2, List.forall_mem_cons.mpr ⟨dX4_call_5, List.forall_mem_cons.mpr ⟨dX4_call_7, List.forall_mem_cons.mpr ⟨dX4_call_8, List.forall_mem_cons.mpr ⟨dX4_call_10, List.forall_mem_cons.mpr ⟨dX4_call_11, List.forall_mem_cons.mpr ⟨dX4_call_12, List.forall_mem_cons.mpr ⟨dX4_call_15, List.forall_mem_cons.mpr ⟨dX4_call_18, List.forall_mem_cons.mpr ⟨dX4_call_20, List.forall_mem_cons.mpr ⟨dX4_call_23, List.forall_mem_cons.mpr ⟨dX4_call_24, List.forall_mem_cons.mpr ⟨dX4_call_27, List.forall_mem_cons.mpr ⟨dX4_call_30, List.forall_mem_cons.mpr ⟨dX4_call_31, List.forall_mem_cons.mpr ⟨dX4_call_32, List.forall_mem_cons.mpr ⟨dX4_call_33, List.forall_mem_cons.mpr ⟨dX4_call_36, List.forall_mem_cons.mpr ⟨dX4_call_39, List.forall_mem_cons.mpr ⟨dX4_call_40, List.forall_mem_cons.mpr ⟨dX4_call_43, List.forall_mem_cons.mpr ⟨dX4_call_45, List.forall_mem_cons.mpr ⟨dX4_call_46, List.forall_mem_cons.mpr ⟨dX4_call_48, List.forall_mem_cons.mpr ⟨dX4_call_49, List.forall_mem_cons.mpr ⟨dX4_call_52, fun _ h => absurd h List.not_mem_nil⟩⟩⟩⟩⟩⟩⟩⟩⟩⟩⟩⟩⟩⟩⟩⟩⟩⟩⟩⟩⟩⟩⟩⟩⟩⟩⟩⟩
def mi_t38 : mi_T := [(1000000, mi_t38_0)]
theorem mi_k38 : mi_dok cX4_call mi_t38 := List.forall_mem_cons.mpr ⟨mi_k38_0, fun _ h => absurd h List.not_mem_nil⟩
def mi_m38 : mi_M := (mi_t38, 4, (some .int), 6, 1, 4, yX4_call, cX4_call)
def mi_t39_0 : List (Nat × Instr × Nat) := [(0, .aload_n 0, 1), (1, .iload_n 1, 1), (2, .iload_n 2, 1), (3, .invokestatic 56, 3), (6, .putfield 31, 3), (9, .aload_n 0, 1), (10, .getfield 31, 3), (13, .ifCond .eq 5, 3), (16, .iconst 0, 1), (17, .ireturn, 1), (18, .aload_n 0, 1), (19, .getfield 10, 3), (22, .invokevirtual 49, 3), (25, .iconst 0, 1), (26, .istore 4, 2), (28, .iconst 0, 1), (29, .istore 5, 2), (31, .iload 5, 2), (33, .aload_n 0, 1), (34, .getfield 35, 3), (37, .if_icmp .ge 67, 3), (40, .iload 5, 2), (42, .sipush 300, 3), (45, .if_icmp .ge 59, 3), (48, .aload_n 0, 1), (49, .getfield 18, 3), (52, .iload 5, 2), (54, .aaload, 1), (55, .astore 6, 2), (57, .aload 6, 2), (59, .ifnull 39, 3), (62, .aload 6, 2), (64, .iload_n 2, 1), (65, .invokevirtual 60, 3), (68, .ifCond .eq 30, 3), (71, .aload 6, 2), (73, .iload_n 1, 1), (74, .iload_n 2, 1), (75, .invokevirtual 63, 3), (78, .ifCond .eq 20, 3)]
theorem mi_k39_0 : ∀ q ∈ mi_t39_0, decode cX4_every q.1 = .ok q.2 := List.forall_mem_cons.mpr ⟨dX4_every_0, List.forall_mem_cons.mpr ⟨dX4_every_1, List.forall_mem_cons.mpr ⟨dX4_every_2, List.forall_mem_cons.mpr ⟨dX4_every_3, List.forall_mem_cons.mpr ⟨dX4_every_6, List.forall_mem_cons.mpr ⟨dX4_every_9, List.forall_mem_cons.mpr ⟨dX4_every_10, List.forall_mem_cons.mpr ⟨dX4_every_13, List.forall_mem_cons.mpr ⟨dX4_every_16, List.forall_mem_cons.mpr ⟨dX4_every_17, List.forall_mem_cons.mpr ⟨dX4_every_18, List.forall_mem_cons.mpr ⟨dX4_every_19, List.forall_mem_cons.mpr ⟨dX4_every_22, List.forall_mem_cons.mpr ⟨dX4_every_25, List.forall_mem_cons.mpr ⟨dX4_every_26, List.forall_mem_cons.mpr ⟨dX4_every_28, List.forall_mem_cons.mpr ⟨dX4_every_29, List.forall_mem_cons.mpr ⟨dX4_every_31, List.forall_mem_cons.mpr ⟨dX4_every_33, List.forall_mem_cons.mpr ⟨dX4_every_34, List.forall_mem_cons.mpr ⟨dX4_every_37, List.forall_mem_cons.mpr ⟨dX4_every_40, List.forall_mem_cons.mpr ⟨dX4_every_42, List.forall_mem_cons.mpr ⟨dX4_every_45, List.forall_mem_cons.mpr ⟨dX4_every_48, List.forall_mem_cons.mpr ⟨dX4_every_49, List.forall_mem_cons.mpr ⟨dX4_every_52, List.forall_mem_cons.mpr ⟨dX4_every_54, List.forall_mem_cons.mpr ⟨dX4_every_55, List.forall_mem_cons.mpr ⟨dX4_every_57, List.forall_mem_cons.mpr ⟨dX4_every_59, List.forall_mem_cons.mpr ⟨dX4_every_62, List.forall_mem_cons.mpr ⟨dX4_every_64, List.forall_mem_cons.mpr ⟨dX4_every_65, List.forall_mem_cons.mpr ⟨dX4_every_68, List.forall_mem_cons.mpr ⟨dX4_every_71, List.forall_mem_cons.mpr ⟨dX4_every_73, List.forall_mem_cons.mpr ⟨dX4_every_74, List.forall_mem_cons.mpr ⟨dX4_every_75, List.forall_mem_cons.mpr ⟨dX4_every_78, fun _ h => absurd h List.not_mem_nil⟩⟩⟩⟩⟩⟩⟩⟩⟩⟩⟩⟩⟩⟩⟩⟩⟩⟩⟩⟩⟩⟩⟩⟩⟩⟩⟩⟩⟩⟩⟩⟩⟩⟩⟩⟩⟩⟩⟩⟩
def mi_t39_1 : List (Nat × Instr × Nat) := [(81, .iload 4, 2), (83, .aload_n 0, 1), (84, .getfield 10, 3), (87, .aload 6, 2), (89, .iload_n 1, 1), (90, .iload_n 3, 1), (91, .iconst 0, 1), (92, .invokevirtual 52, 3), (95, .iadd, 1), (96, .istore 4, 2), (98, .iinc 5 1, 3), (101, .goto (-70), 3), (104, .iload 4, 2), (106, .ireturn, 1)]
theorem mi_k39_1 : ∀ q ∈ mi_t39_1, decode cX4_every q.1 = .ok q.2 := List.forall_mem_cons.mpr ⟨dX4_every_81, List.forall_mem_cons.mpr ⟨dX4_every_83, List.forall_mem_cons.mpr ⟨dX4_every_84, List.forall_mem_cons.mpr ⟨dX4_every_87, List.forall_mem_cons.mpr ⟨dX4_every_89, List.forall_mem_cons.mpr ⟨dX4_every_90, List.forall_mem_cons.mpr ⟨dX4_every_91, List.forall_mem_cons.mpr ⟨dX4_every_92, List.forall_mem_cons.mpr ⟨dX4_every_95, List.forall_mem_cons.mpr ⟨dX4_every_96, List.forall_mem_cons.mpr ⟨dX4_every_98, List.forall_mem_cons.mpr ⟨dX4_every_101, List.forall_mem_cons.mpr ⟨dX4_every_104, List.forall_mem_cons.mpr ⟨dX4_every_106, fun _ h => absurd h List.not_mem_nil⟩⟩⟩⟩⟩⟩⟩⟩⟩⟩⟩⟩⟩⟩
def mi_t39 : mi_T := [(81, mi_t39_0), (1000000, mi_t39_1)]
theorem mi_k39 : mi_dok cX4_every mi_t39 := List.forall_mem_cons.mpr ⟨mi_k39_0, List.forall_mem_cons.mpr ⟨mi_k39_1, fun _ h => absurd h List.not_mem_nil⟩⟩
def mi_m39 : mi_M := (mi_t39, 4, (some .int), 7, 1, 3, yX4_every, cX4_every)
def mi_t40_0 : List (Nat × Instr × Nat) := [(0, .aload_n 0, 1), (1, .iload_n 1, 1), (2, .invokevirtual 41, 3), (5, .astore_n 3, 1), (6, .aload_n 3, 1), (7, .ifnonnull 10, 3), (10, .aload_n 0, 1), (11, .iconst 1, 1), (12, .putfield 31, 3), (15, .iconst 0, 1), (16, .ireturn, 1), (17, .aload_n 0, 1), (18, .iconst 0, 1), (19, .putfield 31, 3), (22, .aload_n 0, 1), (23, .getfield 10, 3), (26, .invokevirtual 49, 3), (29, .iconst 0, 1), (30, .istore 4, 2), (32, .bipush 24, 2), (34, .istore 5, 2), (36, .iload 5, 2), (38, .ifCond .lt 29, 3), (41, .iload 4, 2), (43, .aload_n 0, 1), (44, .aload_n 3, 1), (45, .iload_n 2, 1), (46, .iload 5, 2), (48, .iushr, 1), (49, .sipush 255, 3), (52, .iand, 1), (53, .iload 4, 2), (55, .invokevirtual 67, 3), (58, .iadd, 1), (59, .istore 4, 2), (61, .iinc 5 (-8), 3), (64, .goto (-28), 3), (67, .iload 4, 2), (69, .ireturn, 1)]
theorem mi_k40_0 : ∀ q ∈ mi_t40_0, decode cX4_feed q.1 = .ok q.2 := List.forall_mem_cons.mpr ⟨dX4_feed_0, List.forall_mem_cons.mpr ⟨dX4_feed_1, List.forall_mem_cons.mpr ⟨dX4_feed_2, List.forall_mem_cons.mpr ⟨dX4_feed_5, List.forall_mem_cons.mpr ⟨dX4_feed_6, List.forall_mem_cons.mpr ⟨dX4_feed_7, List.forall_mem_cons.mpr ⟨dX4_feed_10, List.forall_mem_cons.mpr ⟨dX4_feed_11, List.forall_mem_cons.mpr ⟨dX4_feed_12, List.forall_mem_cons.mpr ⟨dX4_feed_15, List.forall_mem_cons.mpr ⟨dX4_feed_16, List.forall_mem_cons.mpr ⟨dX4_feed_17, List.forall_mem_cons.mpr ⟨dX4_feed_18, List.forall_mem_cons.mpr ⟨dX4_feed_19, List.forall_mem_cons.mpr ⟨dX4_feed_22, List.forall_mem_cons.mpr ⟨dX4_feed_23, List.forall_mem_cons.mpr ⟨dX4_feed_26, List.forall_mem_cons.mpr ⟨dX4_feed_29, List.forall_mem_cons.mpr ⟨dX4_feed_30, List.forall_mem_cons.mpr ⟨dX4_feed_32, List.forall_mem_cons.mpr ⟨dX4_feed_34, List.forall_mem_cons.mpr ⟨dX4_feed_36, List.forall_mem_cons.mpr ⟨dX4_feed_38, List.forall_mem_cons.mpr ⟨dX4_feed_41, List.forall_mem_cons.mpr ⟨dX4_feed_43, List.forall_mem_cons.mpr ⟨dX4_feed_44, List.forall_mem_cons.mpr ⟨dX4_feed_45, List.forall_mem_cons.mpr ⟨dX4_feed_46, List.forall_mem_cons.mpr ⟨dX4_feed_48, List.forall_mem_cons.mpr ⟨dX4_feed_49, List.forall_mem_cons.mpr ⟨dX4_feed_52, List.forall_mem_cons.mpr ⟨dX4_feed_53, List.forall_mem_cons.mpr ⟨dX4_feed_55, List.forall_mem_cons.mpr ⟨dX4_feed_58, List.forall_mem_cons.mpr ⟨dX4_feed_59, List.forall_mem_cons.mpr ⟨dX4_feed_61, List.forall_mem_cons.mpr ⟨dX4_feed_64, List.forall_mem_cons.mpr ⟨dX4_feed_67, List.forall_mem_cons.mpr ⟨dX4_feed_69, fun _ h => absurd h List.not_mem_nil⟩⟩⟩⟩⟩⟩⟩⟩⟩⟩⟩⟩⟩⟩⟩⟩⟩⟩⟩⟩⟩⟩⟩⟩⟩⟩⟩⟩⟩⟩⟩⟩⟩⟩⟩⟩⟩⟩⟩
def mi_t40 : mi_T := [(1000000, mi_t40_0)]
theorem mi_k40 : mi_dok cX4_feed mi_t40 := List.forall_mem_cons.mpr ⟨mi_k40_0, fun _ h => absurd h List.not_mem_nil⟩
def mi_m40 : mi_M := (mi_t40, 4, (some .int), 6, 1, 2, yX4_feed, cX4_feed)
def mi_t41_0 : List (Nat × Instr × Nat) := [(0, .aload_n 0, 1), (1, .iload_n 1, 1), (2, .invokevirtual 41, 3), (5, .astore_n 3, 1), (6, .aload_n 0, 1), (7, .iload_n 2, 1), (8, .invokevirtual 41, 3), (11, .astore 4, 2), (13, .aload_n 3, 1), (14, .ifnull 8, 3), (17, .aload 4, 2), (19, .ifnonnull 10, 3), (22, .aload_n 0, 1), (23, .iconst 1, 1), (24, .putfield 31, 3), (27, .iconst (-1), 1), (28, .ireturn, 1), (29, .aload_n 0, 1), (30, .getfield 70, 3), (33, .sipush 400, 3), (36, .if_icmp .lt 10, 3), (39, .aload_n 0, 1), (40, .iconst 5, 1), (41, .putfield 31, 3), (44, .iconst (-1), 1), (45, .ireturn, 1), (46, .aload_n 3, 1), (47, .aload 4, 2), (49, .invokevirtual 73, 3), (52, .aload_n 0, 1), (53, .dup, 1), (54, .getfield 70, 3), (57, .iconst 1, 1), (58, .iadd, 1), (59, .putfield 70, 3), (62, .aload_n 0, 1), (63, .iconst 0, 1), (64, .putfield 31, 3), (67, .aload_n 0, 1), (68, .getfield 70, 3)]
theorem mi_k41_0 : ∀ q ∈ mi_t41_0, decode cX4_link q.1 = .ok q.2 := List.forall_mem_cons.mpr ⟨dX4_link_0, List.forall_mem_cons.mpr ⟨dX4_link_1, List.forall_mem_cons.mpr ⟨dX4_link_2, List.forall_mem_cons.mpr ⟨dX4_link_5, List.forall_mem_cons.mpr ⟨dX4_link_6, List.forall_mem_cons.mpr ⟨dX4_link_7, List.forall_mem_cons.mpr ⟨dX4_link_8, List.forall_mem_cons.mpr ⟨dX4_link_11, List.forall_mem_cons.mpr ⟨dX4_link_13, List.forall_mem_cons.mpr ⟨dX4_link_14, List.forall_mem_cons.mpr ⟨dX4_link_17, List.forall_mem_cons.mpr ⟨dX4_link_19, List.forall_mem_cons.mpr ⟨dX4_link_22, List.forall_mem_cons.mpr ⟨dX4_link_23, List.forall_mem_cons.mpr ⟨dX4_link_24, List.forall_mem_cons.mpr ⟨dX4_link_27, List.forall_mem_cons.mpr ⟨dX4_link_28, List.forall_mem_cons.mpr ⟨dX4_link_29, List.forall_mem_cons.mpr ⟨dX4_link_30, List.forall_mem_cons.mpr ⟨dX4_link_33, List.forall_mem_cons.mpr ⟨dX4_link_36, List.forall_mem_cons.mpr ⟨dX4_link_39, List.forall_mem_cons.mpr ⟨dX4_link_40, List.forall_mem_cons.mpr ⟨dX4_link_41, List.forall_mem_cons.mpr ⟨dX4_link_44, List.forall_mem_cons.mpr ⟨dX4_link_45, List.forall_mem_cons.mpr ⟨dX4_link_46, List.forall_mem_cons.mpr ⟨dX4_link_47, List.forall_mem_cons.mpr ⟨dX4_link_49, List.forall_mem_cons.mpr ⟨dX4_link_52, List.forall_mem_cons.mpr ⟨dX4_link_53, List.forall_mem_cons.mpr ⟨dX4_link_54, List.forall_mem_cons.mpr ⟨dX4_link_57, List.forall_mem_cons.mpr ⟨dX4_link_58, List.forall_mem_cons.mpr ⟨dX4_link_59, List.forall_mem_cons.mpr ⟨dX4_link_62, List.forall_mem_cons.mpr ⟨dX4_link_63, List.forall_mem_cons.mpr ⟨dX4_link_64, List.forall_mem_cons.mpr ⟨dX4_link_67, List.forall_mem_cons.mpr ⟨dX4_link_68, fun _ h => absurd h List.not_mem_nil⟩⟩⟩⟩⟩⟩⟩⟩⟩⟩⟩⟩⟩⟩⟩⟩⟩⟩⟩⟩⟩⟩⟩⟩⟩⟩⟩⟩⟩⟩⟩⟩⟩⟩⟩⟩⟩⟩⟩⟩
def mi_t41_1 : List (Nat × Instr × Nat) := [(71, .iconst 1, 1), (72, .isub, 1), (73, .ireturn, 1)]
theorem mi_k41_1 : ∀ q ∈ mi_t41_1, decode cX4_link q.1 = .ok q.2 := List.forall_mem_cons.mpr ⟨dX4_link_71, List.forall_mem_cons.mpr ⟨dX4_link_72, List.forall_mem_cons.mpr ⟨dX4_link_73, fun _ h => absurd h List.not_mem_nil⟩⟩⟩
def mi_t41 : mi_T := [(71, mi_t41_0), (1000000, mi_t41_1)]
theorem mi_k41 : mi_dok cX4_link mi_t41 := List.forall_mem_cons.mpr ⟨mi_k41_0, List.forall_mem_cons.mpr ⟨mi_k41_1, fun _ h => absurd h List.not_mem_nil⟩⟩
def mi_m41 : mi_M := (mi_t41, 4, (some .int), 5, 1, 2, yX4_link, cX4_link)
def mi_t42_0 : List (Nat × Instr × Nat) := [(0, .aload_n 0, 1), (1, .iload_n 1, 1), (2, .invokevirtual 41, 3), (5, .astore_n 3, 1), (6, .aload_n 3, 1), (7, .ifnonnull 10, 3), (10, .aload_n 0, 1), (11, .iconst 1, 1), (12, .putfield 31, 3), (15, .iconst 0, 1), (16, .ireturn, 1), (17, .aload_n 0, 1), (18, .iconst 0, 1), (19, .putfield 31, 3), (22, .aload_n 0, 1), (23, .getfield 10, 3), (26, .invokevirtual 49, 3), (29, .aload_n 0, 1), (30, .dup, 1), (31, .getfield 77, 3), (34, .iconst 1, 1), (35, .iadd, 1), (36, .putfield 77, 3), (39, .aload_n 0, 1), (40, .iconst 0, 1), (41, .putfield 80, 3), (44, .aload_n 0, 1), (45, .aload_n 3, 1), (46, .iload_n 2, 1), (47, .invokevirtual 83, 3), (50, .iconst 0, 1), (51, .istore 4, 2), (53, .iload 4, 2), (55, .aload_n 0, 1), (56, .getfield 80, 3), (59, .if_icmp .ge 28, 3), (62, .iload 4, 2), (64, .sipush 300, 3), (67, .if_icmp .ge 20, 3), (70, .aload_n 0, 1)]
theorem mi_k42_0 : ∀ q ∈ mi_t42_0, decode cX4_pass q.1 = .ok q.2 := List.forall_mem_cons.mpr ⟨dX4_pass_0, List.forall_mem_cons.mpr ⟨dX4_pass_1, List.forall_mem_cons.mpr ⟨dX4_pass_2, List.forall_mem_cons.mpr ⟨dX4_pass_5, List.forall_mem_cons.mpr ⟨dX4_pass_6, List.forall_mem_cons.mpr ⟨dX4_pass_7, List.forall_mem_cons.mpr ⟨dX4_pass_10, List.forall_mem_cons.mpr ⟨dX4_pass_11, List.forall_mem_cons.mpr ⟨dX4_pass_12, List.forall_mem_cons.mpr ⟨dX4_pass_15, List.forall_mem_cons.mpr ⟨dX4_pass_16, List.forall_mem_cons.mpr ⟨dX4_pass_17, List.forall_mem_cons.mpr ⟨dX4_pass_18, List.forall_mem_cons.mpr ⟨dX4_pass_19, List.forall_mem_cons.mpr ⟨dX4_pass_22, List.forall_mem_cons.mpr ⟨dX4_pass_23, List.forall_mem_cons.mpr ⟨dX4_pass_26, List.forall_mem_cons.mpr ⟨dX4_pass_29, List.forall_mem_cons.mpr ⟨dX4_pass_30, List.forall_mem_cons.mpr ⟨dX4_pass_31, List.forall_mem_cons.mpr ⟨dX4_pass_34, List.forall_mem_cons.mpr ⟨dX4_pass_35, List.forall_mem_cons.mpr ⟨dX4_pass_36, List.forall_mem_cons.mpr ⟨dX4_pass_39, List.forall_mem_cons.mpr ⟨dX4_pass_40, List.forall_mem_cons.mpr ⟨dX4_pass_41, List.forall_mem_cons.mpr ⟨dX4_pass_44, List.forall_mem_cons.mpr ⟨dX4_pass_45, List.forall_mem_cons.mpr ⟨dX4_pass_46, List.forall_mem_cons.mpr ⟨dX4_pass_47, List.forall_mem_cons.mpr ⟨dX4_pass_50, List.forall_mem_cons.mpr ⟨dX4_pass_51, List.forall_mem_cons.mpr ⟨dX4_pass_53, List.forall_mem_cons.mpr ⟨dX4_pass_55, List.forall_mem_cons.mpr ⟨dX4_pass_56, List.forall_mem_cons.mpr ⟨dX4_pass_59, List.forall_mem_cons.mpr ⟨dX4_pass_62, List.forall_mem_cons.mpr ⟨dX4_pass_64, List.forall_mem_cons.mpr ⟨dX4_pass_67, List.forall_mem_cons.mpr ⟨dX4_pass_70, fun _ h => absurd h List.not_mem_nil⟩⟩⟩⟩⟩⟩⟩⟩⟩⟩⟩⟩⟩⟩⟩⟩⟩⟩⟩⟩⟩⟩⟩⟩⟩⟩⟩⟩⟩⟩⟩⟩⟩⟩⟩⟩⟩⟩⟩⟩
def mi_t42_1 : List (Nat × Instr × Nat) := [(71, .aload_n 0, 1), (72, .getfield 22, 3), (75, .iload 4, 2), (77, .aaload, 1), (78, .invokevirtual 87, 3), (81, .iinc 4 1, 3), (84, .goto (-31), 3), (87, .aload_n 0, 1), (88, .getfield 80, 3), (91, .ireturn, 1)]
theorem mi_k42_1 : ∀ q ∈ mi_t42_1, decode cX4_pass q.1 = .ok q.2 := List.forall_mem_cons.mpr ⟨dX4_pass_71, List.forall_mem_cons.mpr ⟨dX4_pass_72, List.forall_mem_cons.mpr ⟨dX4_pass_75, List.forall_mem_cons.mpr ⟨dX4_pass_77, List.forall_mem_cons.mpr ⟨dX4_pass_78, List.forall_mem_cons.mpr ⟨dX4_pass_81, List.forall_mem_cons.mpr ⟨dX4_pass_84, List.forall_mem_cons.mpr ⟨dX4_pass_87, List.forall_mem_cons.mpr ⟨dX4_pass_88, List.forall_mem_cons.mpr ⟨dX4_pass_91, fun _ h => absurd h List.not_mem_nil⟩⟩⟩⟩⟩⟩⟩⟩⟩⟩
def mi_t42 : mi_T := [(71, mi_t42_0), (1000000, mi_t42_1)]
theorem mi_k42 : mi_dok cX4_pass mi_t42 := List.forall_mem_cons.mpr ⟨mi_k42_0, List.forall_mem_cons.mpr ⟨mi_k42_1, fun _ h => absurd h List.not_mem_nil⟩⟩
def mi_m42 : mi_M := (mi_t42, 4, (some .int), 5, 1, 2, yX4_pass, cX4_pass)
def mi_t43_0 : List (Nat × Instr × Nat) := [(0, .aload_n 0, 1), (1, .iload_n 1, 1), (2, .invokevirtual 41, 3), (5, .astore_n 3, 1), (6, .aload_n 3, 1), (7, .ifnull 10, 3), (10, .iload_n 2, 1), (11, .invokestatic 90, 3), (14, .ifCond .ne 5, 3), (17, .iconst (-1), 1), (18, .ireturn, 1), (19, .aload_n 3, 1), (20, .iload_n 2, 1), (21, .invokevirtual 60, 3), (24, .ifCond .eq 7, 3), (27, .iconst 1, 1), (28, .goto 4, 3), (31, .iconst 0, 1), (32, .ireturn, 1)]
theorem mi_k43_0 : ∀ q ∈ mi_t43_0, decode cX4_able q.1 = .ok q.2 := List.forall_mem_cons.mpr ⟨dX4_able_0, List.forall_mem_cons.mpr ⟨dX4_able_1, List.forall_mem_cons.mpr ⟨dX4_able_2, List.forall_mem_cons.mpr ⟨dX4_able_5, List.forall_mem_cons.mpr ⟨dX4_able_6, List.forall_mem_cons.mpr ⟨dX4_able_7, List.forall_mem_cons.mpr ⟨dX4_able_10, List.forall_mem_cons.mpr ⟨dX4_able_11, List.forall_mem_cons.mpr ⟨dX4_able_14, List.forall_mem_cons.mpr ⟨dX4_able_17, List.forall_mem_cons.mpr ⟨dX4_able_18, List.forall_mem_cons.mpr ⟨dX4_able_19, List.forall_mem_cons.mpr ⟨dX4_able_20, List.forall_mem_cons.mpr ⟨dX4_able_21, List.forall_mem_cons.mpr ⟨dX4_able_24, List.forall_mem_cons.mpr ⟨dX4_able_27, List.forall_mem_cons.mpr ⟨dX4_able_28, List.forall_mem_cons.mpr ⟨dX4_able_31, List.forall_mem_cons.mpr ⟨dX4_able_32, fun _ h => absurd h List.not_mem_nil⟩⟩⟩⟩⟩⟩⟩⟩⟩⟩⟩⟩⟩⟩⟩⟩⟩⟩⟩
def mi_t43 : mi_T := [(1000000, mi_t43_0)]
theorem mi_k43 : mi_dok cX4_able mi_t43 := List.forall_mem_cons.mpr ⟨mi_k43_0, fun _ h => absurd h List.not_mem_nil⟩
def mi_m43 : mi_M := (mi_t43, 4, (some .int), 4, 1, 2, yX4_able, cX4_able)
def mi_t44_0 : List (Nat × Instr × Nat) := [(0, .aload_n 0, 1), (1, .getfield 10, 3), (4, .iload_n 1, 1), (5, .invokevirtual 93, 3), (8, .ireturn, 1)]
theorem mi_k44_0 : ∀ q ∈ mi_t44_0, decode cX4_chain q.1 = .ok q.2 := List.forall_mem_cons.mpr ⟨dX4_chain_0, List.forall_mem_cons.mpr ⟨dX4_chain_1, List.forall_mem_cons.mpr ⟨dX4_chain_4, List.forall_mem_cons.mpr ⟨dX4_chain_5, List.forall_mem_cons.mpr ⟨dX4_chain_8, fun _ h => absurd h List.not_mem_nil⟩⟩⟩⟩⟩
def mi_t44 : mi_T := [(1000000, mi_t44_0)]
theorem mi_k44 : mi_dok cX4_chain mi_t44 := List.forall_mem_cons.mpr ⟨mi_k44_0, fun _ h => absurd h List.not_mem_nil⟩
def mi_m44 : mi_M := (mi_t44, 4, (some .int), 2, 1, 1, yX4_chain, cX4_chain)
def mi_t45_0 : List (Nat × Instr × Nat) := [(0, .aload_n 0, 1), (1, .getfield 10, 3), (4, .getfield 97, 3), (7, .ireturn, 1)]
theorem mi_k45_0 : ∀ q ∈ mi_t45_0, decode cX4_ran q.1 = .ok q.2 := List.forall_mem_cons.mpr ⟨dX4_ran_0, List.forall_mem_cons.mpr ⟨dX4_ran_1, List.forall_mem_cons.mpr ⟨dX4_ran_4, List.forall_mem_cons.mpr ⟨dX4_ran_7, fun _ h => absurd h List.not_mem_nil⟩⟩⟩⟩
def mi_t45 : mi_T := [(1000000, mi_t45_0)]
theorem mi_k45 : mi_dok cX4_ran mi_t45 := List.forall_mem_cons.mpr ⟨mi_k45_0, fun _ h => absurd h List.not_mem_nil⟩
def mi_m45 : mi_M := (mi_t45, 4, (some .int), 1, 1, 0, yX4_ran, cX4_ran)
def mi_t46_0 : List (Nat × Instr × Nat) := [(0, .aload_n 0, 1), (1, .iload_n 1, 1), (2, .invokevirtual 41, 3), (5, .astore_n 3, 1), (6, .aload_n 3, 1), (7, .ifnull 10, 3), (10, .iload_n 2, 1), (11, .invokestatic 100, 3), (14, .ifCond .ne 10, 3), (17, .aload_n 0, 1), (18, .iconst 1, 1), (19, .putfield 31, 3), (22, .iconst 0, 1), (23, .ireturn, 1), (24, .aload_n 0, 1), (25, .iconst 0, 1), (26, .putfield 31, 3), (29, .aload_n 3, 1), (30, .iload_n 2, 1), (31, .invokevirtual 103, 3), (34, .ireturn, 1)]
theorem mi_k46_0 : ∀ q ∈ mi_t46_0, decode cX4_state q.1 = .ok q.2 := List.forall_mem_cons.mpr ⟨dX4_state_0, List.forall_mem_cons.mpr ⟨dX4_state_1, List.forall_mem_cons.mpr ⟨dX4_state_2, List.forall_mem_cons.mpr ⟨dX4_state_5, List.forall_mem_cons.mpr ⟨dX4_state_6, List.forall_mem_cons.mpr ⟨dX4_state_7, List.forall_mem_cons.mpr ⟨dX4_state_10, List.forall_mem_cons.mpr ⟨dX4_state_11, List.forall_mem_cons.mpr ⟨dX4_state_14, List.forall_mem_cons.mpr ⟨dX4_state_17, List.forall_mem_cons.mpr ⟨dX4_state_18, List.forall_mem_cons.mpr ⟨dX4_state_19, List.forall_mem_cons.mpr ⟨dX4_state_22, List.forall_mem_cons.mpr ⟨dX4_state_23, List.forall_mem_cons.mpr ⟨dX4_state_24, List.forall_mem_cons.mpr ⟨dX4_state_25, List.forall_mem_cons.mpr ⟨dX4_state_26, List.forall_mem_cons.mpr ⟨dX4_state_29, List.forall_mem_cons.mpr ⟨dX4_state_30, List.forall_mem_cons.mpr ⟨dX4_state_31, List.forall_mem_cons.mpr ⟨dX4_state_34, fun _ h => absurd h List.not_mem_nil⟩⟩⟩⟩⟩⟩⟩⟩⟩⟩⟩⟩⟩⟩⟩⟩⟩⟩⟩⟩⟩
def mi_t46 : mi_T := [(1000000, mi_t46_0)]
theorem mi_k46 : mi_dok cX4_state mi_t46 := List.forall_mem_cons.mpr ⟨mi_k46_0, fun _ h => absurd h List.not_mem_nil⟩
def mi_m46 : mi_M := (mi_t46, 4, (some .int), 4, 1, 2, yX4_state, cX4_state)
def mi_t47_0 : List (Nat × Instr × Nat) := [(0, .iload_n 1, 1), (1, .ifCond .ne 8, 3), (4, .aload_n 0, 1), (5, .getfield 35, 3), (8, .ireturn, 1), (9, .iload_n 1, 1), (10, .iconst 1, 1), (11, .if_icmp .ne 8, 3), (14, .aload_n 0, 1), (15, .getfield 70, 3), (18, .ireturn, 1), (19, .iload_n 1, 1), (20, .invokestatic 90, 3), (23, .ifCond .eq 11, 3), (26, .aload_n 0, 1), (27, .iload_n 1, 1), (28, .invokevirtual 106, 3), (31, .goto 4, 3), (34, .iconst (-1), 1), (35, .ireturn, 1)]
theorem mi_k47_0 : ∀ q ∈ mi_t47_0, decode cX4_size q.1 = .ok q.2 := List.forall_mem_cons.mpr ⟨dX4_size_0, List.forall_mem_cons.mpr ⟨dX4_size_1, List.forall_mem_cons.mpr ⟨dX4_size_4, List.forall_mem_cons.mpr ⟨dX4_size_5, List.forall_mem_cons.mpr ⟨dX4_size_8, List.forall_mem_cons.mpr ⟨dX4_size_9, List.forall_mem_cons.mpr ⟨dX4_size_10, List.forall_mem_cons.mpr ⟨dX4_size_11, List.forall_mem_cons.mpr ⟨dX4_size_14, List.forall_mem_cons.mpr ⟨dX4_size_15, List.forall_mem_cons.mpr ⟨dX4_size_18, List.forall_mem_cons.mpr ⟨dX4_size_19, List.forall_mem_cons.mpr ⟨dX4_size_20, List.forall_mem_cons.mpr ⟨dX4_size_23, List.forall_mem_cons.mpr ⟨dX4_size_26, List.forall_mem_cons.mpr ⟨dX4_size_27, List.forall_mem_cons.mpr ⟨dX4_size_28, List.forall_mem_cons.mpr ⟨dX4_size_31, List.forall_mem_cons.mpr ⟨dX4_size_34, List.forall_mem_cons.mpr ⟨dX4_size_35, fun _ h => absurd h List.not_mem_nil⟩⟩⟩⟩⟩⟩⟩⟩⟩⟩⟩⟩⟩⟩⟩⟩⟩⟩⟩⟩
def mi_t47 : mi_T := [(1000000, mi_t47_0)]
theorem mi_k47 : mi_dok cX4_size mi_t47 := List.forall_mem_cons.mpr ⟨mi_k47_0, fun _ h => absurd h List.not_mem_nil⟩
def mi_m47 : mi_M := (mi_t47, 4, (some .int), 2, 1, 1, yX4_size, cX4_size)
def mi_t48_0 : List (Nat × Instr × Nat) := [(0, .aload_n 0, 1), (1, .getfield 31, 3), (4, .ireturn, 1)]
theorem mi_k48_0 : ∀ q ∈ mi_t48_0, decode cX4_status q.1 = .ok q.2 := List.forall_mem_cons.mpr ⟨dX4_status_0, List.forall_mem_cons.mpr ⟨dX4_status_1, List.forall_mem_cons.mpr ⟨dX4_status_4, fun _ h => absurd h List.not_mem_nil⟩⟩⟩
def mi_t48 : mi_T := [(1000000, mi_t48_0)]
theorem mi_k48 : mi_dok cX4_status mi_t48 := List.forall_mem_cons.mpr ⟨mi_k48_0, fun _ h => absurd h List.not_mem_nil⟩
def mi_m48 : mi_M := (mi_t48, 4, (some .int), 1, 1, 0, yX4_status, cX4_status)
def mi_t49_0 : List (Nat × Instr × Nat) := [(0, .iload_n 1, 1), (1, .ifCond .lt 18, 3), (4, .iload_n 1, 1), (5, .aload_n 0, 1), (6, .getfield 35, 3), (9, .if_icmp .ge 10, 3), (12, .iload_n 1, 1), (13, .sipush 300, 3), (16, .if_icmp .lt 5, 3), (19, .aconst_null, 1), (20, .areturn, 1), (21, .aload_n 0, 1), (22, .getfield 18, 3), (25, .iload_n 1, 1), (26, .aaload, 1), (27, .areturn, 1)]
theorem mi_k49_0 : ∀ q ∈ mi_t49_0, decode cX4_find q.1 = .ok q.2 := List.forall_mem_cons.mpr ⟨dX4_find_0, List.forall_mem_cons.mpr ⟨dX4_find_1, List.forall_mem_cons.mpr ⟨dX4_find_4, List.forall_mem_cons.mpr ⟨dX4_find_5, List.forall_mem_cons.mpr ⟨dX4_find_6, List.forall_mem_cons.mpr ⟨dX4_find_9, List.forall_mem_cons.mpr ⟨dX4_find_12, List.forall_mem_cons.mpr ⟨dX4_find_13, List.forall_mem_cons.mpr ⟨dX4_find_16, List.forall_mem_cons.mpr ⟨dX4_find_19, List.forall_mem_cons.mpr ⟨dX4_find_20, List.forall_mem_cons.mpr ⟨dX4_find_21, List.forall_mem_cons.mpr ⟨dX4_find_22, List.forall_mem_cons.mpr ⟨dX4_find_25, List.forall_mem_cons.mpr ⟨dX4_find_26, List.forall_mem_cons.mpr ⟨dX4_find_27, fun _ h => absurd h List.not_mem_nil⟩⟩⟩⟩⟩⟩⟩⟩⟩⟩⟩⟩⟩⟩⟩⟩
def mi_t49 : mi_T := [(1000000, mi_t49_0)]
theorem mi_k49 : mi_dok cX4_find mi_t49 := List.forall_mem_cons.mpr ⟨mi_k49_0, fun _ h => absurd h List.not_mem_nil⟩
def mi_m49 : mi_M := (mi_t49, 4, (some (.object "LineOfKin$Device")), 2, 1, 1, yX4_find, cX4_find)
def mi_t50_0 : List (Nat × Instr × Nat) := [(0, .aload_n 0, 1), (1, .ifnull 17, 3), (4, .iload_n 1, 1), (5, .invokestatic 109, 3), (8, .ifCond .eq 10, 3), (11, .iload_n 2, 1), (12, .invokestatic 90, 3), (15, .ifCond .ne 5, 3), (18, .iconst 1, 1), (19, .ireturn, 1), (20, .aload_n 0, 1), (21, .iload_n 2, 1), (22, .invokevirtual 60, 3), (25, .ifCond .ne 5, 3), (28, .iconst 2, 1), (29, .ireturn, 1), (30, .aload_n 0, 1), (31, .iload_n 1, 1), (32, .iload_n 2, 1), (33, .invokevirtual 63, 3), (36, .ifCond .eq 7, 3), (39, .iconst 0, 1), (40, .goto 4, 3), (43, .iconst 3, 1), (44, .ireturn, 1)]
theorem mi_k50_0 : ∀ q ∈ mi_t50_0, decode cX4_refusal q.1 = .ok q.2 := List.forall_mem_cons.mpr ⟨dX4_refusal_0, List.forall_mem_cons.mpr ⟨dX4_refusal_1, List.forall_mem_cons.mpr ⟨dX4_refusal_4, List.forall_mem_cons.mpr ⟨dX4_refusal_5, List.forall_mem_cons.mpr ⟨dX4_refusal_8, List.forall_mem_cons.mpr ⟨dX4_refusal_11, List.forall_mem_cons.mpr ⟨dX4_refusal_12, List.forall_mem_cons.mpr ⟨dX4_refusal_15, List.forall_mem_cons.mpr ⟨dX4_refusal_18, List.forall_mem_cons.mpr ⟨dX4_refusal_19, List.forall_mem_cons.mpr ⟨dX4_refusal_20, List.forall_mem_cons.mpr ⟨dX4_refusal_21, List.forall_mem_cons.mpr ⟨dX4_refusal_22, List.forall_mem_cons.mpr ⟨dX4_refusal_25, List.forall_mem_cons.mpr ⟨dX4_refusal_28, List.forall_mem_cons.mpr ⟨dX4_refusal_29, List.forall_mem_cons.mpr ⟨dX4_refusal_30, List.forall_mem_cons.mpr ⟨dX4_refusal_31, List.forall_mem_cons.mpr ⟨dX4_refusal_32, List.forall_mem_cons.mpr ⟨dX4_refusal_33, List.forall_mem_cons.mpr ⟨dX4_refusal_36, List.forall_mem_cons.mpr ⟨dX4_refusal_39, List.forall_mem_cons.mpr ⟨dX4_refusal_40, List.forall_mem_cons.mpr ⟨dX4_refusal_43, List.forall_mem_cons.mpr ⟨dX4_refusal_44, fun _ h => absurd h List.not_mem_nil⟩⟩⟩⟩⟩⟩⟩⟩⟩⟩⟩⟩⟩⟩⟩⟩⟩⟩⟩⟩⟩⟩⟩⟩⟩
def mi_t50 : mi_T := [(1000000, mi_t50_0)]
theorem mi_k50 : mi_dok cX4_refusal mi_t50 := List.forall_mem_cons.mpr ⟨mi_k50_0, fun _ h => absurd h List.not_mem_nil⟩
def mi_m50 : mi_M := (mi_t50, 4, (some .int), 3, 0, 3, yX4_refusal, cX4_refusal)
def mi_t51_0 : List (Nat × Instr × Nat) := [(0, .iload_n 0, 1), (1, .invokestatic 109, 3), (4, .ifCond .eq 10, 3), (7, .iload_n 1, 1), (8, .invokestatic 90, 3), (11, .ifCond .ne 5, 3), (14, .iconst 1, 1), (15, .ireturn, 1), (16, .iload_n 1, 1), (17, .ifCond .eq 14, 3), (20, .iload_n 1, 1), (21, .invokestatic 112, 3), (24, .iload_n 0, 1), (25, .invokestatic 115, 3), (28, .ifCond .eq 5, 3), (31, .iconst 0, 1), (32, .ireturn, 1), (33, .iconst 3, 1), (34, .ireturn, 1)]
theorem mi_k51_0 : ∀ q ∈ mi_t51_0, decode cX4_refusalOfEvery q.1 = .ok q.2 := List.forall_mem_cons.mpr ⟨dX4_refusalOfEvery_0, List.forall_mem_cons.mpr ⟨dX4_refusalOfEvery_1, List.forall_mem_cons.mpr ⟨dX4_refusalOfEvery_4, List.forall_mem_cons.mpr ⟨dX4_refusalOfEvery_7, List.forall_mem_cons.mpr ⟨dX4_refusalOfEvery_8, List.forall_mem_cons.mpr ⟨dX4_refusalOfEvery_11, List.forall_mem_cons.mpr ⟨dX4_refusalOfEvery_14, List.forall_mem_cons.mpr ⟨dX4_refusalOfEvery_15, List.forall_mem_cons.mpr ⟨dX4_refusalOfEvery_16, List.forall_mem_cons.mpr ⟨dX4_refusalOfEvery_17, List.forall_mem_cons.mpr ⟨dX4_refusalOfEvery_20, List.forall_mem_cons.mpr ⟨dX4_refusalOfEvery_21, List.forall_mem_cons.mpr ⟨dX4_refusalOfEvery_24, List.forall_mem_cons.mpr ⟨dX4_refusalOfEvery_25, List.forall_mem_cons.mpr ⟨dX4_refusalOfEvery_28, List.forall_mem_cons.mpr ⟨dX4_refusalOfEvery_31, List.forall_mem_cons.mpr ⟨dX4_refusalOfEvery_32, List.forall_mem_cons.mpr ⟨dX4_refusalOfEvery_33, List.forall_mem_cons.mpr ⟨dX4_refusalOfEvery_34, fun _ h => absurd h List.not_mem_nil⟩⟩⟩⟩⟩⟩⟩⟩⟩⟩⟩⟩⟩⟩⟩⟩⟩⟩⟩
def mi_t51 : mi_T := [(1000000, mi_t51_0)]
theorem mi_k51 : mi_dok cX4_refusalOfEvery mi_t51 := List.forall_mem_cons.mpr ⟨mi_k51_0, fun _ h => absurd h List.not_mem_nil⟩
def mi_m51 : mi_M := (mi_t51, 4, (some .int), 2, 0, 2, yX4_refusalOfEvery, cX4_refusalOfEvery)
def mi_t52_0 : List (Nat × Instr × Nat) := [(0, .iload_n 2, 1), (1, .bipush 15, 2), (3, .iand, 1), (4, .istore 4, 2), (6, .iload_n 2, 1), (7, .iconst 4, 1), (8, .iushr, 1), (9, .bipush 7, 2), (11, .iand, 1), (12, .istore 5, 2), (14, .iload_n 2, 1), (15, .sipush 128, 3), (18, .iand, 1), (19, .ifCond .ne 7, 3), (22, .iload_n 3, 1), (23, .goto 6, 3), (26, .iconst 0, 1), (27, .iload_n 3, 1), (28, .isub, 1), (29, .istore 6, 2), (31, .aload_n 1, 1), (32, .iload 4, 2), (34, .iload 5, 2), (36, .invokestatic 45, 3), (39, .ifCond .ne 19, 3), (42, .aload_n 0, 1), (43, .getfield 10, 3), (46, .aload_n 1, 1), (47, .iload 4, 2), (49, .iload 6, 2), (51, .iconst 0, 1), (52, .invokevirtual 52, 3), (55, .goto 4, 3), (58, .iconst 0, 1), (59, .ireturn, 1)]
theorem mi_k52_0 : ∀ q ∈ mi_t52_0, decode cX4_answerToByte q.1 = .ok q.2 := List.forall_mem_cons.mpr ⟨dX4_answerToByte_0, List.forall_mem_cons.mpr ⟨dX4_answerToByte_1, List.forall_mem_cons.mpr ⟨dX4_answerToByte_3, List.forall_mem_cons.mpr ⟨dX4_answerToByte_4, List.forall_mem_cons.mpr ⟨dX4_answerToByte_6, List.forall_mem_cons.mpr ⟨dX4_answerToByte_7, List.forall_mem_cons.mpr ⟨dX4_answerToByte_8, List.forall_mem_cons.mpr ⟨dX4_answerToByte_9, List.forall_mem_cons.mpr ⟨dX4_answerToByte_11, List.forall_mem_cons.mpr ⟨dX4_answerToByte_12, List.forall_mem_cons.mpr ⟨dX4_answerToByte_14, List.forall_mem_cons.mpr ⟨dX4_answerToByte_15, List.forall_mem_cons.mpr ⟨dX4_answerToByte_18, List.forall_mem_cons.mpr ⟨dX4_answerToByte_19, List.forall_mem_cons.mpr ⟨dX4_answerToByte_22, List.forall_mem_cons.mpr ⟨dX4_answerToByte_23, List.forall_mem_cons.mpr ⟨dX4_answerToByte_26, List.forall_mem_cons.mpr ⟨dX4_answerToByte_27, List.forall_mem_cons.mpr ⟨dX4_answerToByte_28, List.forall_mem_cons.mpr ⟨dX4_answerToByte_29, List.forall_mem_cons.mpr ⟨dX4_answerToByte_31, List.forall_mem_cons.mpr ⟨dX4_answerToByte_32, List.forall_mem_cons.mpr ⟨dX4_answerToByte_34, List.forall_mem_cons.mpr ⟨dX4_answerToByte_36, List.forall_mem_cons.mpr ⟨dX4_answerToByte_39, List.forall_mem_cons.mpr ⟨dX4_answerToByte_42, List.forall_mem_cons.mpr ⟨dX4_answerToByte_43, List.forall_mem_cons.mpr ⟨dX4_answerToByte_46, List.forall_mem_cons.mpr ⟨dX4_answerToByte_47, List.forall_mem_cons.mpr ⟨dX4_answerToByte_49, List.forall_mem_cons.mpr ⟨dX4_answerToByte_51, List.forall_mem_cons.mpr ⟨dX4_answerToByte_52, List.forall_mem_cons.mpr ⟨dX4_answerToByte_55, List.forall_mem_cons.mpr ⟨dX4_answerToByte_58, List.forall_mem_cons.mpr ⟨dX4_answerToByte_59, fun _ h => absurd h List.not_mem_nil⟩⟩⟩⟩⟩⟩⟩⟩⟩⟩⟩⟩⟩⟩⟩⟩⟩⟩⟩⟩⟩⟩⟩⟩⟩⟩⟩⟩⟩⟩⟩⟩⟩⟩⟩
def mi_t52 : mi_T := [(1000000, mi_t52_0)]
theorem mi_k52 : mi_dok cX4_answerToByte mi_t52 := List.forall_mem_cons.mpr ⟨mi_k52_0, fun _ h => absurd h List.not_mem_nil⟩
def mi_m52 : mi_M := (mi_t52, 4, (some .int), 7, 1, 3, yX4_answerToByte, cX4_answerToByte)
def mi_t53_0 : List (Nat × Instr × Nat) := [(0, .aload_n 0, 1), (1, .getfield 80, 3), (4, .sipush 300, 3), (7, .if_icmp .lt 4, 3), (10, .return_, 1), (11, .aload_n 0, 1), (12, .getfield 22, 3), (15, .aload_n 0, 1), (16, .getfield 80, 3), (19, .aload_n 1, 1), (20, .aastore, 1), (21, .aload_n 0, 1), (22, .dup, 1), (23, .getfield 80, 3), (26, .iconst 1, 1), (27, .iadd, 1), (28, .putfield 80, 3), (31, .aload_n 1, 1), (32, .aload_n 0, 1), (33, .getfield 77, 3), (36, .putfield 118, 3), (39, .aload_n 1, 1), (40, .dup, 1), (41, .getfield 119, 3), (44, .iconst 1, 1), (45, .iadd, 1), (46, .putfield 119, 3), (49, .aload_n 1, 1), (50, .aload_n 0, 1), (51, .getfield 10, 3), (54, .aload_n 1, 1), (55, .aload_n 1, 1), (56, .invokevirtual 122, 3), (59, .iload_n 2, 1), (60, .iconst 0, 1), (61, .invokevirtual 52, 3), (64, .putfield 126, 3), (67, .return_, 1)]
theorem mi_k53_0 : ∀ q ∈ mi_t53_0, decode cX4_letTake q.1 = .ok q.2 := List.forall_mem_cons.mpr ⟨dX4_letTake_0, List.forall_mem_cons.mpr ⟨dX4_letTake_1, List.forall_mem_cons.mpr ⟨dX4_letTake_4, List.forall_mem_cons.mpr ⟨dX4_letTake_7, List.forall_mem_cons.mpr ⟨dX4_letTake_10, List.forall_mem_cons.mpr ⟨dX4_letTake_11, List.forall_mem_cons.mpr ⟨dX4_letTake_12, List.forall_mem_cons.mpr ⟨dX4_letTake_15, List.forall_mem_cons.mpr ⟨dX4_letTake_16, List.forall_mem_cons.mpr ⟨dX4_letTake_19, List.forall_mem_cons.mpr ⟨dX4_letTake_20, List.forall_mem_cons.mpr ⟨dX4_letTake_21, List.forall_mem_cons.mpr ⟨dX4_letTake_22, List.forall_mem_cons.mpr ⟨dX4_letTake_23, List.forall_mem_cons.mpr ⟨dX4_letTake_26, List.forall_mem_cons.mpr ⟨dX4_letTake_27, List.forall_mem_cons.mpr ⟨dX4_letTake_28, List.forall_mem_cons.mpr ⟨dX4_letTake_31, List.forall_mem_cons.mpr ⟨dX4_letTake_32, List.forall_mem_cons.mpr ⟨dX4_letTake_33, List.forall_mem_cons.mpr ⟨dX4_letTake_36, List.forall_mem_cons.mpr ⟨dX4_letTake_39, List.forall_mem_cons.mpr ⟨dX4_letTake_40, List.forall_mem_cons.mpr ⟨dX4_letTake_41, List.forall_mem_cons.mpr ⟨dX4_letTake_44, List.forall_mem_cons.mpr ⟨dX4_letTake_45, List.forall_mem_cons.mpr ⟨dX4_letTake_46, List.forall_mem_cons.mpr ⟨dX4_letTake_49, List.forall_mem_cons.mpr ⟨dX4_letTake_50, List.forall_mem_cons.mpr ⟨dX4_letTake_51, List.forall_mem_cons.mpr ⟨dX4_letTake_54, List.forall_mem_cons.mpr ⟨dX4_letTake_55, List.forall_mem_cons.mpr ⟨dX4_letTake_56, List.forall_mem_cons.mpr ⟨dX4_letTake_59, List.forall_mem_cons.mpr ⟨dX4_letTake_60, List.forall_mem_cons.mpr ⟨dX4_letTake_61, List.forall_mem_cons.mpr ⟨dX4_letTake_64, List.forall_mem_cons.mpr ⟨dX4_letTake_67, fun _ h => absurd h List.not_mem_nil⟩⟩⟩⟩⟩⟩⟩⟩⟩⟩⟩⟩⟩⟩⟩⟩⟩⟩⟩⟩⟩⟩⟩⟩⟩⟩⟩⟩⟩⟩⟩⟩⟩⟩⟩⟩⟩⟩
def mi_t53 : mi_T := [(1000000, mi_t53_0)]
theorem mi_k53 : mi_dok cX4_letTake mi_t53 := List.forall_mem_cons.mpr ⟨mi_k53_0, fun _ h => absurd h List.not_mem_nil⟩
def mi_m53 : mi_M := (mi_t53, 4, none, 3, 1, 2, yX4_letTake, cX4_letTake)
def mi_t54_0 : List (Nat × Instr × Nat) := [(0, .aload_n 1, 1), (1, .ifnonnull 4, 3), (4, .return_, 1), (5, .aload_n 1, 1), (6, .getfield 129, 3), (9, .astore_n 2, 1), (10, .aload_n 2, 1), (11, .ifnull 37, 3), (14, .aload_n 2, 1), (15, .getfield 133, 3), (18, .getfield 118, 3), (21, .aload_n 0, 1), (22, .getfield 77, 3), (25, .if_icmp .eq 15, 3), (28, .aload_n 0, 1), (29, .aload_n 2, 1), (30, .getfield 133, 3), (33, .aload_n 1, 1), (34, .getfield 126, 3), (37, .invokevirtual 83, 3), (40, .aload_n 2, 1), (41, .getfield 139, 3), (44, .astore_n 2, 1), (45, .goto (-35), 3), (48, .return_, 1)]
theorem mi_k54_0 : ∀ q ∈ mi_t54_0, decode cX4_handOn q.1 = .ok q.2 := List.forall_mem_cons.mpr ⟨dX4_handOn_0, List.forall_mem_cons.mpr ⟨dX4_handOn_1, List.forall_mem_cons.mpr ⟨dX4_handOn_4, List.forall_mem_cons.mpr ⟨dX4_handOn_5, List.forall_mem_cons.mpr ⟨dX4_handOn_6, List.forall_mem_cons.mpr ⟨dX4_handOn_9, List.forall_mem_cons.mpr ⟨dX4_handOn_10, List.forall_mem_cons.mpr ⟨dX4_handOn_11, List.forall_mem_cons.mpr ⟨dX4_handOn_14, List.forall_mem_cons.mpr ⟨dX4_handOn_15, List.forall_mem_cons.mpr ⟨dX4_handOn_18, List.forall_mem_cons.mpr ⟨dX4_handOn_21, List.forall_mem_cons.mpr ⟨dX4_handOn_22, List.forall_mem_cons.mpr ⟨dX4_handOn_25, List.forall_mem_cons.mpr ⟨dX4_handOn_28, List.forall_mem_cons.mpr ⟨dX4_handOn_29, List.forall_mem_cons.mpr ⟨dX4_handOn_30, List.forall_mem_cons.mpr ⟨dX4_handOn_33, List.forall_mem_cons.mpr ⟨dX4_handOn_34, List.forall_mem_cons.mpr ⟨dX4_handOn_37, List.forall_mem_cons.mpr ⟨dX4_handOn_40, List.forall_mem_cons.mpr ⟨dX4_handOn_41, List.forall_mem_cons.mpr ⟨dX4_handOn_44, List.forall_mem_cons.mpr ⟨dX4_handOn_45, List.forall_mem_cons.mpr ⟨dX4_handOn_48, fun _ h => absurd h List.not_mem_nil⟩⟩⟩⟩⟩⟩⟩⟩⟩⟩⟩⟩⟩⟩⟩⟩⟩⟩⟩⟩⟩⟩⟩⟩⟩
def mi_t54 : mi_T := [(1000000, mi_t54_0)]
theorem mi_k54 : mi_dok cX4_handOn mi_t54 := List.forall_mem_cons.mpr ⟨mi_k54_0, fun _ h => absurd h List.not_mem_nil⟩
def mi_m54 : mi_M := (mi_t54, 4, none, 3, 1, 1, yX4_handOn, cX4_handOn)
def mi_t55_0 : List (Nat × Instr × Nat) := [(0, .iconst 0, 1), (1, .istore_n 2, 1), (2, .iconst 0, 1), (3, .istore_n 3, 1), (4, .iload_n 3, 1), (5, .aload_n 0, 1), (6, .getfield 35, 3), (9, .if_icmp .ge 41, 3), (12, .iload_n 3, 1), (13, .sipush 300, 3), (16, .if_icmp .ge 34, 3), (19, .aload_n 0, 1), (20, .getfield 18, 3), (23, .iload_n 3, 1), (24, .aaload, 1), (25, .astore 4, 2), (27, .aload 4, 2), (29, .ifnull 15, 3), (32, .aload 4, 2), (34, .iload_n 1, 1), (35, .invokevirtual 60, 3), (38, .ifCond .eq 6, 3), (41, .iinc 2 1, 3), (44, .iinc 3 1, 3), (47, .goto (-43), 3), (50, .iload_n 2, 1), (51, .ireturn, 1)]
theorem mi_k55_0 : ∀ q ∈ mi_t55_0, decode cX4_countBearersOf q.1 = .ok q.2 := List.forall_mem_cons.mpr ⟨dX4_countBearersOf_0, List.forall_mem_cons.mpr ⟨dX4_countBearersOf_1, List.forall_mem_cons.mpr ⟨dX4_countBearersOf_2, List.forall_mem_cons.mpr ⟨dX4_countBearersOf_3, List.forall_mem_cons.mpr ⟨dX4_countBearersOf_4, List.forall_mem_cons.mpr ⟨dX4_countBearersOf_5, List.forall_mem_cons.mpr ⟨dX4_countBearersOf_6, List.forall_mem_cons.mpr ⟨dX4_countBearersOf_9, List.forall_mem_cons.mpr ⟨dX4_countBearersOf_12, List.forall_mem_cons.mpr ⟨dX4_countBearersOf_13, List.forall_mem_cons.mpr ⟨dX4_countBearersOf_16, List.forall_mem_cons.mpr ⟨dX4_countBearersOf_19, List.forall_mem_cons.mpr ⟨dX4_countBearersOf_20, List.forall_mem_cons.mpr ⟨dX4_countBearersOf_23, List.forall_mem_cons.mpr ⟨dX4_countBearersOf_24, List.forall_mem_cons.mpr ⟨dX4_countBearersOf_25, List.forall_mem_cons.mpr ⟨dX4_countBearersOf_27, List.forall_mem_cons.mpr ⟨dX4_countBearersOf_29, List.forall_mem_cons.mpr ⟨dX4_countBearersOf_32, List.forall_mem_cons.mpr ⟨dX4_countBearersOf_34, List.forall_mem_cons.mpr ⟨dX4_countBearersOf_35, List.forall_mem_cons.mpr ⟨dX4_countBearersOf_38, List.forall_mem_cons.mpr ⟨dX4_countBearersOf_41, List.forall_mem_cons.mpr ⟨dX4_countBearersOf_44, List.forall_mem_cons.mpr ⟨dX4_countBearersOf_47, List.forall_mem_cons.mpr ⟨dX4_countBearersOf_50, List.forall_mem_cons.mpr ⟨dX4_countBearersOf_51, fun _ h => absurd h List.not_mem_nil⟩⟩⟩⟩⟩⟩⟩⟩⟩⟩⟩⟩⟩⟩⟩⟩⟩⟩⟩⟩⟩⟩⟩⟩⟩⟩⟩
def mi_t55 : mi_T := [(1000000, mi_t55_0)]
theorem mi_k55 : mi_dok cX4_countBearersOf mi_t55 := List.forall_mem_cons.mpr ⟨mi_k55_0, fun _ h => absurd h List.not_mem_nil⟩
def mi_m55 : mi_M := (mi_t55, 4, (some .int), 5, 1, 1, yX4_countBearersOf, cX4_countBearersOf)
def mi_t56_0 : List (Nat × Instr × Nat) := [(0, .aload_n 0, 1), (1, .invokespecial 1, 3), (4, .aload_n 0, 1), (5, .sipush 246, 3), (8, .newarray .int, 2), (10, .dup, 1), (11, .iconst 0, 1), (12, .sipush 3010, 3), (15, .iastore, 1), (16, .dup, 1), (17, .iconst 1, 1), (18, .sipush 1000, 3), (21, .iastore, 1), (22, .dup, 1), (23, .iconst 2, 1), (24, .sipush 1100, 3), (27, .iastore, 1), (28, .dup, 1), (29, .iconst 3, 1), (30, .iconst 1, 1), (31, .iastore, 1), (32, .dup, 1), (33, .iconst 4, 1), (34, .sipush 1003, 3), (37, .iastore, 1), (38, .dup, 1), (39, .iconst 5, 1), (40, .sipush 3011, 3), (43, .iastore, 1), (44, .dup, 1), (45, .bipush 6, 2), (47, .sipush 1000, 3), (50, .iastore, 1), (51, .dup, 1), (52, .bipush 7, 2), (54, .sipush 1101, 3), (57, .iastore, 1), (58, .dup, 1), (59, .bipush 8, 2), (61, .iconst 3, 1)]
theorem mi_k56_0 : ∀ q ∈ mi_t56_0, decode cX5_init q.1 = .ok q.2 := List.forall_mem_cons.mpr ⟨dX5_init_0, List.forall_mem_cons.mpr ⟨dX5_init_1, List.forall_mem_cons.mpr ⟨dX5_init_4, List.forall_mem_cons.mpr ⟨dX5_init_5, List.forall_mem_cons.mpr ⟨dX5_init_8, List.forall_mem_cons.mpr ⟨dX5_init_10, List.forall_mem_cons.mpr ⟨dX5_init_11, List.forall_mem_cons.mpr ⟨dX5_init_12, List.forall_mem_cons.mpr ⟨dX5_init_15, List.forall_mem_cons.mpr ⟨dX5_init_16, List.forall_mem_cons.mpr ⟨dX5_init_17, List.forall_mem_cons.mpr ⟨dX5_init_18, List.forall_mem_cons.mpr ⟨dX5_init_21, List.forall_mem_cons.mpr ⟨dX5_init_22, List.forall_mem_cons.mpr ⟨dX5_init_23, List.forall_mem_cons.mpr ⟨dX5_init_24, List.forall_mem_cons.mpr ⟨dX5_init_27, List.forall_mem_cons.mpr ⟨dX5_init_28, List.forall_mem_cons.mpr ⟨dX5_init_29, List.forall_mem_cons.mpr ⟨dX5_init_30, List.forall_mem_cons.mpr ⟨dX5_init_31, List.forall_mem_cons.mpr ⟨dX5_init_32, List.forall_mem_cons.mpr ⟨dX5_init_33, List.forall_mem_cons.mpr ⟨dX5_init_34, List.forall_mem_cons.mpr ⟨dX5_init_37, List.forall_mem_cons.mpr ⟨dX5_init_38, List.forall_mem_cons.mpr ⟨dX5_init_39, List.forall_mem_cons.mpr ⟨dX5_init_40, List.forall_mem_cons.mpr ⟨dX5_init_43, List.forall_mem_cons.mpr ⟨dX5_init_44, List.forall_mem_cons.mpr ⟨dX5_init_45, List.forall_mem_cons.mpr ⟨dX5_init_47, List.forall_mem_cons.mpr ⟨dX5_init_50, List.forall_mem_cons.mpr ⟨dX5_init_51, List.forall_mem_cons.mpr ⟨dX5_init_52, List.forall_mem_cons.mpr ⟨dX5_init_54, List.forall_mem_cons.mpr ⟨dX5_init_57, List.forall_mem_cons.mpr ⟨dX5_init_58, List.forall_mem_cons.mpr ⟨dX5_init_59, List.forall_mem_cons.mpr ⟨dX5_init_61, fun _ h => absurd h List.not_mem_nil⟩⟩⟩⟩⟩⟩⟩⟩⟩⟩⟩⟩⟩⟩⟩⟩⟩⟩⟩⟩⟩⟩⟩⟩⟩⟩⟩⟩⟩⟩⟩⟩⟩⟩⟩⟩⟩⟩⟩⟩
def mi_t56_1 : List (Nat × Instr × Nat) := [(62, .iastore, 1), (63, .dup, 1), (64, .bipush 9, 2), (66, .sipush 1005, 3), (69, .iastore, 1), (70, .dup, 1), (71, .bipush 10, 2), (73, .sipush 1000, 3), (76, .iastore, 1), (77, .dup, 1), (78, .bipush 11, 2), (80, .iconst 1, 1), (81, .iastore, 1), (82, .dup, 1), (83, .bipush 12, 2), (85, .sipush 1003, 3), (88, .iastore, 1), (89, .dup, 1), (90, .bipush 13, 2), (92, .sipush 1100, 3), (95, .iastore, 1), (96, .dup, 1), (97, .bipush 14, 2), (99, .sipush 1004, 3), (102, .iastore, 1), (103, .dup, 1), (104, .bipush 15, 2), (106, .sipush 3020, 3), (109, .iastore, 1), (110, .dup, 1), (111, .bipush 16, 2), (113, .sipush 1000, 3), (116, .iastore, 1), (117, .dup, 1), (118, .bipush 17, 2), (120, .sipush 1103, 3), (123, .iastore, 1), (124, .dup, 1), (125, .bipush 18, 2), (127, .sipush 1000, 3)]
theorem mi_k56_1 : ∀ q ∈ mi_t56_1, decode cX5_init q.1 = .ok q.2 := List.forall_mem_cons.mpr ⟨dX5_init_62, List.forall_mem_cons.mpr ⟨dX5_init_63, List.forall_mem_cons.mpr ⟨dX5_init_64, List.forall_mem_cons.mpr ⟨dX5_init_66, List.forall_mem_cons.mpr ⟨dX5_init_69, List.forall_mem_cons.mpr ⟨dX5_init_70, List.forall_mem_cons.mpr ⟨dX5_init_71, List.forall_mem_cons.mpr ⟨dX5_init_73, List.forall_mem_cons.mpr ⟨dX5_init_76, List.forall_mem_cons.mpr ⟨dX5_init_77, List.forall_mem_cons.mpr ⟨dX5_init_78, List.forall_mem_cons.mpr ⟨dX5_init_80, List.forall_mem_cons.mpr ⟨dX5_init_81, List.forall_mem_cons.mpr ⟨dX5_init_82, List.forall_mem_cons.mpr ⟨dX5_init_83, List.forall_mem_cons.mpr ⟨dX5_init_85, List.forall_mem_cons.mpr ⟨dX5_init_88, List.forall_mem_cons.mpr ⟨dX5_init_89, List.forall_mem_cons.mpr ⟨dX5_init_90, List.forall_mem_cons.mpr ⟨dX5_init_92, List.forall_mem_cons.mpr ⟨dX5_init_95, List.forall_mem_cons.mpr ⟨dX5_init_96, List.forall_mem_cons.mpr ⟨dX5_init_97, List.forall_mem_cons.mpr ⟨dX5_init_99, List.forall_mem_cons.mpr ⟨dX5_init_102, List.forall_mem_cons.mpr ⟨dX5_init_103, List.forall_mem_cons.mpr ⟨dX5_init_104, List.forall_mem_cons.mpr ⟨dX5_init_106, List.forall_mem_cons.mpr ⟨dX5_init_109, List.forall_mem_cons.mpr ⟨dX5_init_110, List.forall_mem_cons.mpr ⟨dX5_init_111, List.forall_mem_cons.mpr ⟨dX5_init_113, List.forall_mem_cons.mpr ⟨dX5_init_116, List.forall_mem_cons.mpr ⟨dX5_init_117, List.forall_mem_cons.mpr ⟨dX5_init_118, List.forall_mem_cons.mpr ⟨dX5_init_120, List.forall_mem_cons.mpr ⟨dX5_init_123, List.forall_mem_cons.mpr ⟨dX5_init_124, List.forall_mem_cons.mpr ⟨dX5_init_125, List.forall_mem_cons.mpr ⟨dX5_init_127, fun _ h => absurd h List.not_mem_nil⟩⟩⟩⟩⟩⟩⟩⟩⟩⟩⟩⟩⟩⟩⟩⟩⟩⟩⟩⟩⟩⟩⟩⟩⟩⟩⟩⟩⟩⟩⟩⟩⟩⟩⟩⟩⟩⟩⟩⟩
def mi_t56_2 : List (Nat × Instr × Nat) := [(130, .iastore, 1), (131, .dup, 1), (132, .bipush 19, 2), (134, .iconst 1, 1), (135, .iastore, 1), (136, .dup, 1), (137, .bipush 20, 2), (139, .sipush 1003, 3), (142, .iastore, 1), (143, .dup, 1), (144, .bipush 21, 2), (146, .sipush 1103, 3), (149, .iastore, 1), (150, .dup, 1), (151, .bipush 22, 2), (153, .sipush 1003, 3), (156, .iastore, 1), (157, .dup, 1), (158, .bipush 23, 2), (160, .sipush 3021, 3), (163, .iastore, 1), (164, .dup, 1), (165, .bipush 24, 2), (167, .sipush 1000, 3), (170, .iastore, 1), (171, .dup, 1), (172, .bipush 25, 2), (174, .sipush 1104, 3), (177, .iastore, 1), (178, .dup, 1), (179, .bipush 26, 2), (181, .bipush 85, 2), (183, .iastore, 1), (184, .dup, 1), (185, .bipush 27, 2), (187, .sipush 1006, 3), (190, .iastore, 1), (191, .dup, 1), (192, .bipush 28, 2), (194, .sipush 3030, 3)]
theorem mi_k56_2 : ∀ q ∈ mi_t56_2, decode cX5_init q.1 = .ok q.2 := List.forall_mem_cons.mpr ⟨dX5_init_130, List.forall_mem_cons.mpr ⟨dX5_init_131, List.forall_mem_cons.mpr ⟨dX5_init_132, List.forall_mem_cons.mpr ⟨dX5_init_134, List.forall_mem_cons.mpr ⟨dX5_init_135, List.forall_mem_cons.mpr ⟨dX5_init_136, List.forall_mem_cons.mpr ⟨dX5_init_137, List.forall_mem_cons.mpr ⟨dX5_init_139, List.forall_mem_cons.mpr ⟨dX5_init_142, List.forall_mem_cons.mpr ⟨dX5_init_143, List.forall_mem_cons.mpr ⟨dX5_init_144, List.forall_mem_cons.mpr ⟨dX5_init_146, List.forall_mem_cons.mpr ⟨dX5_init_149, List.forall_mem_cons.mpr ⟨dX5_init_150, List.forall_mem_cons.mpr ⟨dX5_init_151, List.forall_mem_cons.mpr ⟨dX5_init_153, List.forall_mem_cons.mpr ⟨dX5_init_156, List.forall_mem_cons.mpr ⟨dX5_init_157, List.forall_mem_cons.mpr ⟨dX5_init_158, List.forall_mem_cons.mpr ⟨dX5_init_160, List.forall_mem_cons.mpr ⟨dX5_init_163, List.forall_mem_cons.mpr ⟨dX5_init_164, List.forall_mem_cons.mpr ⟨dX5_init_165, List.forall_mem_cons.mpr ⟨dX5_init_167, List.forall_mem_cons.mpr ⟨dX5_init_170, List.forall_mem_cons.mpr ⟨dX5_init_171, List.forall_mem_cons.mpr ⟨dX5_init_172, List.forall_mem_cons.mpr ⟨dX5_init_174, List.forall_mem_cons.mpr ⟨dX5_init_177, List.forall_mem_cons.mpr ⟨dX5_init_178, List.forall_mem_cons.mpr ⟨dX5_init_179, List.forall_mem_cons.mpr ⟨dX5_init_181, List.forall_mem_cons.mpr ⟨dX5_init_183, List.forall_mem_cons.mpr ⟨dX5_init_184, List.forall_mem_cons.mpr ⟨dX5_init_185, List.forall_mem_cons.mpr ⟨dX5_init_187, List.forall_mem_cons.mpr ⟨dX5_init_190, List.forall_mem_cons.mpr ⟨dX5_init_191, List.forall_mem_cons.mpr ⟨dX5_init_192, List.forall_mem_cons.mpr ⟨dX5_init_194, fun _ h => absurd h List.not_mem_nil⟩⟩⟩⟩⟩⟩⟩⟩⟩⟩⟩⟩⟩⟩⟩⟩⟩⟩⟩⟩⟩⟩⟩⟩⟩⟩⟩⟩⟩⟩⟩⟩⟩⟩⟩⟩⟩⟩⟩⟩
def mi_t56_3 : List (Nat × Instr × Nat) := [(197, .iastore, 1), (198, .dup, 1), (199, .bipush 29, 2), (201, .sipush 1000, 3), (204, .iastore, 1), (205, .dup, 1), (206, .bipush 30, 2), (208, .sipush 1314, 3), (211, .iastore, 1), (212, .dup, 1), (213, .bipush 31, 2), (215, .sipush 1000, 3), (218, .iastore, 1), (219, .dup, 1), (220, .bipush 32, 2), (222, .iconst 1, 1), (223, .iastore, 1), (224, .dup, 1), (225, .bipush 33, 2), (227, .sipush 1003, 3), (230, .iastore, 1), (231, .dup, 1), (232, .bipush 34, 2), (234, .sipush 1326, 3), (237, .iastore, 1), (238, .dup, 1), (239, .bipush 35, 2), (241, .sipush 1003, 3), (244, .iastore, 1), (245, .dup, 1), (246, .bipush 36, 2), (248, .sipush 3040, 3), (251, .iastore, 1), (252, .dup, 1), (253, .bipush 37, 2), (255, .sipush 1000, 3), (258, .iastore, 1), (259, .dup, 1), (260, .bipush 38, 2), (262, .sipush 1105, 3)]
theorem mi_k56_3 : ∀ q ∈ mi_t56_3, decode cX5_init q.1 = .ok q.2 := List.forall_mem_cons.mpr ⟨dX5_init_197, List.forall_mem_cons.mpr ⟨dX5_init_198, List.forall_mem_cons.mpr ⟨dX5_init_199, List.forall_mem_cons.mpr ⟨dX5_init_201, List.forall_mem_cons.mpr ⟨dX5_init_204, List.forall_mem_cons.mpr ⟨dX5_init_205, List.forall_mem_cons.mpr ⟨dX5_init_206, List.forall_mem_cons.mpr ⟨dX5_init_208, List.forall_mem_cons.mpr ⟨dX5_init_211, List.forall_mem_cons.mpr ⟨dX5_init_212, List.forall_mem_cons.mpr ⟨dX5_init_213, List.forall_mem_cons.mpr ⟨dX5_init_215, List.forall_mem_cons.mpr ⟨dX5_init_218, List.forall_mem_cons.mpr ⟨dX5_init_219, List.forall_mem_cons.mpr ⟨dX5_init_220, List.forall_mem_cons.mpr ⟨dX5_init_222, List.forall_mem_cons.mpr ⟨dX5_init_223, List.forall_mem_cons.mpr ⟨dX5_init_224, List.forall_mem_cons.mpr ⟨dX5_init_225, List.forall_mem_cons.mpr ⟨dX5_init_227, List.forall_mem_cons.mpr ⟨dX5_init_230, List.forall_mem_cons.mpr ⟨dX5_init_231, List.forall_mem_cons.mpr ⟨dX5_init_232, List.forall_mem_cons.mpr ⟨dX5_init_234, List.forall_mem_cons.mpr ⟨dX5_init_237, List.forall_mem_cons.mpr ⟨dX5_init_238, List.forall_mem_cons.mpr ⟨dX5_init_239, List.forall_mem_cons.mpr ⟨dX5_init_241, List.forall_mem_cons.mpr ⟨dX5_init_244, List.forall_mem_cons.mpr ⟨dX5_init_245, List.forall_mem_cons.mpr ⟨dX5_init_246, List.forall_mem_cons.mpr ⟨dX5_init_248, List.forall_mem_cons.mpr ⟨dX5_init_251, List.forall_mem_cons.mpr ⟨dX5_init_252, List.forall_mem_cons.mpr ⟨dX5_init_253, List.forall_mem_cons.mpr ⟨dX5_init_255, List.forall_mem_cons.mpr ⟨dX5_init_258, List.forall_mem_cons.mpr ⟨dX5_init_259, List.forall_mem_cons.mpr ⟨dX5_init_260, List.forall_mem_cons.mpr ⟨dX5_init_262, fun _ h => absurd h List.not_mem_nil⟩⟩⟩⟩⟩⟩⟩⟩⟩⟩⟩⟩⟩⟩⟩⟩⟩⟩⟩⟩⟩⟩⟩⟩⟩⟩⟩⟩⟩⟩⟩⟩⟩⟩⟩⟩⟩⟩⟩⟩
def mi_t56_4 : List (Nat × Instr × Nat) := [(265, .iastore, 1), (266, .dup, 1), (267, .bipush 39, 2), (269, .sipush 1000, 3), (272, .iastore, 1), (273, .dup, 1), (274, .bipush 40, 2), (276, .sipush 1003, 3), (279, .iastore, 1), (280, .dup, 1), (281, .bipush 41, 2), (283, .sipush 3041, 3), (286, .iastore, 1), (287, .dup, 1), (288, .bipush 42, 2), (290, .sipush 1000, 3), (293, .iastore, 1), (294, .dup, 1), (295, .bipush 43, 2), (297, .sipush 1106, 3), (300, .iastore, 1), (301, .dup, 1), (302, .bipush 44, 2), (304, .iconst 2, 1), (305, .iastore, 1), (306, .dup, 1), (307, .bipush 45, 2), (309, .sipush 1005, 3), (312, .iastore, 1), (313, .dup, 1), (314, .bipush 46, 2), (316, .iconst 1, 1), (317, .iastore, 1), (318, .dup, 1), (319, .bipush 47, 2), (321, .sipush 1106, 3), (324, .iastore, 1), (325, .dup, 1), (326, .bipush 48, 2), (328, .sipush 1003, 3)]
theorem mi_k56_4 : ∀ q ∈ mi_t56_4, decode cX5_init q.1 = .ok q.2 := List.forall_mem_cons.mpr ⟨dX5_init_265, List.forall_mem_cons.mpr ⟨dX5_init_266, List.forall_mem_cons.mpr ⟨dX5_init_267, List.forall_mem_cons.mpr ⟨dX5_init_269, List.forall_mem_cons.mpr ⟨dX5_init_272, List.forall_mem_cons.mpr ⟨dX5_init_273, List.forall_mem_cons.mpr ⟨dX5_init_274, List.forall_mem_cons.mpr ⟨dX5_init_276, List.forall_mem_cons.mpr ⟨dX5_init_279, List.forall_mem_cons.mpr ⟨dX5_init_280, List.forall_mem_cons.mpr ⟨dX5_init_281, List.forall_mem_cons.mpr ⟨dX5_init_283, List.forall_mem_cons.mpr ⟨dX5_init_286, List.forall_mem_cons.mpr ⟨dX5_init_287, List.forall_mem_cons.mpr ⟨dX5_init_288, List.forall_mem_cons.mpr ⟨dX5_init_290, List.forall_mem_cons.mpr ⟨dX5_init_293, List.forall_mem_cons.mpr ⟨dX5_init_294, List.forall_mem_cons.mpr ⟨dX5_init_295, List.forall_mem_cons.mpr ⟨dX5_init_297, List.forall_mem_cons.mpr ⟨dX5_init_300, List.forall_mem_cons.mpr ⟨dX5_init_301, List.forall_mem_cons.mpr ⟨dX5_init_302, List.forall_mem_cons.mpr ⟨dX5_init_304, List.forall_mem_cons.mpr ⟨dX5_init_305, List.forall_mem_cons.mpr ⟨dX5_init_306, List.forall_mem_cons.mpr ⟨dX5_init_307, List.forall_mem_cons.mpr ⟨dX5_init_309, List.forall_mem_cons.mpr ⟨dX5_init_312, List.forall_mem_cons.mpr ⟨dX5_init_313, List.forall_mem_cons.mpr ⟨dX5_init_314, List.forall_mem_cons.mpr ⟨dX5_init_316, List.forall_mem_cons.mpr ⟨dX5_init_317, List.forall_mem_cons.mpr ⟨dX5_init_318, List.forall_mem_cons.mpr ⟨dX5_init_319, List.forall_mem_cons.mpr ⟨dX5_init_321, List.forall_mem_cons.mpr ⟨dX5_init_324, List.forall_mem_cons.mpr ⟨dX5_init_325, List.forall_mem_cons.mpr ⟨dX5_init_326, List.forall_mem_cons.mpr ⟨dX5_init_328, fun _ h => absurd h List.not_mem_nil⟩⟩⟩⟩⟩⟩⟩⟩⟩⟩⟩⟩⟩⟩⟩⟩⟩⟩⟩⟩⟩⟩⟩⟩⟩⟩⟩⟩⟩⟩⟩⟩⟩⟩⟩⟩⟩⟩⟩⟩
def mi_t56_5 : List (Nat × Instr × Nat) := [(331, .iastore, 1), (332, .dup, 1), (333, .bipush 49, 2), (335, .sipush 3050, 3), (338, .iastore, 1), (339, .dup, 1), (340, .bipush 50, 2), (342, .sipush 1000, 3), (345, .iastore, 1), (346, .dup, 1), (347, .bipush 51, 2), (349, .sipush 1355, 3), (352, .iastore, 1), (353, .dup, 1), (354, .bipush 52, 2), (356, .sipush 1000, 3), (359, .iastore, 1), (360, .dup, 1), (361, .bipush 53, 2), (363, .sipush 1108, 3), (366, .iastore, 1), (367, .dup, 1), (368, .bipush 54, 2), (370, .sipush 1004, 3), (373, .iastore, 1), (374, .dup, 1), (375, .bipush 55, 2), (377, .sipush 3051, 3), (380, .iastore, 1), (381, .dup, 1), (382, .bipush 56, 2), (384, .sipush 1000, 3), (387, .iastore, 1), (388, .dup, 1), (389, .bipush 57, 2), (391, .sipush 2052, 3), (394, .iastore, 1), (395, .dup, 1), (396, .bipush 58, 2), (398, .iconst 2, 1)]
theorem mi_k56_5 : ∀ q ∈ mi_t56_5, decode cX5_init q.1 = .ok q.2 := List.forall_mem_cons.mpr ⟨dX5_init_331, List.forall_mem_cons.mpr ⟨dX5_init_332, List.forall_mem_cons.mpr ⟨dX5_init_333, List.forall_mem_cons.mpr ⟨dX5_init_335, List.forall_mem_cons.mpr ⟨dX5_init_338, List.forall_mem_cons.mpr ⟨dX5_init_339, List.forall_mem_cons.mpr ⟨dX5_init_340, List.forall_mem_cons.mpr ⟨dX5_init_342, List.forall_mem_cons.mpr ⟨dX5_init_345, List.forall_mem_cons.mpr ⟨dX5_init_346, List.forall_mem_cons.mpr ⟨dX5_init_347, List.forall_mem_cons.mpr ⟨dX5_init_349, List.forall_mem_cons.mpr ⟨dX5_init_352, List.forall_mem_cons.mpr ⟨dX5_init_353, List.forall_mem_cons.mpr ⟨dX5_init_354, List.forall_mem_cons.mpr ⟨dX5_init_356, List.forall_mem_cons.mpr ⟨dX5_init_359, List.forall_mem_cons.mpr ⟨dX5_init_360, List.forall_mem_cons.mpr ⟨dX5_init_361, List.forall_mem_cons.mpr ⟨dX5_init_363, List.forall_mem_cons.mpr ⟨dX5_init_366, List.forall_mem_cons.mpr ⟨dX5_init_367, List.forall_mem_cons.mpr ⟨dX5_init_368, List.forall_mem_cons.mpr ⟨dX5_init_370, List.forall_mem_cons.mpr ⟨dX5_init_373, List.forall_mem_cons.mpr ⟨dX5_init_374, List.forall_mem_cons.mpr ⟨dX5_init_375, List.forall_mem_cons.mpr ⟨dX5_init_377, List.forall_mem_cons.mpr ⟨dX5_init_380, List.forall_mem_cons.mpr ⟨dX5_init_381, List.forall_mem_cons.mpr ⟨dX5_init_382, List.forall_mem_cons.mpr ⟨dX5_init_384, List.forall_mem_cons.mpr ⟨dX5_init_387, List.forall_mem_cons.mpr ⟨dX5_init_388, List.forall_mem_cons.mpr ⟨dX5_init_389, List.forall_mem_cons.mpr ⟨dX5_init_391, List.forall_mem_cons.mpr ⟨dX5_init_394, List.forall_mem_cons.mpr ⟨dX5_init_395, List.forall_mem_cons.mpr ⟨dX5_init_396, List.forall_mem_cons.mpr ⟨dX5_init_398, fun _ h => absurd h List.not_mem_nil⟩⟩⟩⟩⟩⟩⟩⟩⟩⟩⟩⟩⟩⟩⟩⟩⟩⟩⟩⟩⟩⟩⟩⟩⟩⟩⟩⟩⟩⟩⟩⟩⟩⟩⟩⟩⟩⟩⟩⟩
def mi_t56_6 : List (Nat × Instr × Nat) := [(399, .iastore, 1), (400, .dup, 1), (401, .bipush 59, 2), (403, .sipush 1105, 3), (406, .iastore, 1), (407, .dup, 1), (408, .bipush 60, 2), (410, .sipush 1003, 3), (413, .iastore, 1), (414, .dup, 1), (415, .bipush 61, 2), (417, .sipush 3052, 3), (420, .iastore, 1), (421, .dup, 1), (422, .bipush 62, 2), (424, .sipush 1000, 3), (427, .iastore, 1), (428, .dup, 1), (429, .bipush 63, 2), (431, .sipush 1105, 3), (434, .iastore, 1), (435, .dup, 1), (436, .bipush 64, 2), (438, .iconst 5, 1), (439, .iastore, 1), (440, .dup, 1), (441, .bipush 65, 2), (443, .sipush 1005, 3), (446, .iastore, 1), (447, .dup, 1), (448, .bipush 66, 2), (450, .sipush 3060, 3), (453, .iastore, 1), (454, .dup, 1), (455, .bipush 67, 2), (457, .sipush 1001, 3), (460, .iastore, 1), (461, .dup, 1), (462, .bipush 68, 2), (464, .sipush 1000, 3)]
theorem mi_k56_6 : ∀ q ∈ mi_t56_6, decode cX5_init q.1 = .ok q.2 := List.forall_mem_cons.mpr ⟨dX5_init_399, List.forall_mem_cons.mpr ⟨dX5_init_400, List.forall_mem_cons.mpr ⟨dX5_init_401, List.forall_mem_cons.mpr ⟨dX5_init_403, List.forall_mem_cons.mpr ⟨dX5_init_406, List.forall_mem_cons.mpr ⟨dX5_init_407, List.forall_mem_cons.mpr ⟨dX5_init_408, List.forall_mem_cons.mpr ⟨dX5_init_410, List.forall_mem_cons.mpr ⟨dX5_init_413, List.forall_mem_cons.mpr ⟨dX5_init_414, List.forall_mem_cons.mpr ⟨dX5_init_415, List.forall_mem_cons.mpr ⟨dX5_init_417, List.forall_mem_cons.mpr ⟨dX5_init_420, List.forall_mem_cons.mpr ⟨dX5_init_421, List.forall_mem_cons.mpr ⟨dX5_init_422, List.forall_mem_cons.mpr ⟨dX5_init_424, List.forall_mem_cons.mpr ⟨dX5_init_427, List.forall_mem_cons.mpr ⟨dX5_init_428, List.forall_mem_cons.mpr ⟨dX5_init_429, List.forall_mem_cons.mpr ⟨dX5_init_431, List.forall_mem_cons.mpr ⟨dX5_init_434, List.forall_mem_cons.mpr ⟨dX5_init_435, List.forall_mem_cons.mpr ⟨dX5_init_436, List.forall_mem_cons.mpr ⟨dX5_init_438, List.forall_mem_cons.mpr ⟨dX5_init_439, List.forall_mem_cons.mpr ⟨dX5_init_440, List.forall_mem_cons.mpr ⟨dX5_init_441, List.forall_mem_cons.mpr ⟨dX5_init_443, List.forall_mem_cons.mpr ⟨dX5_init_446, List.forall_mem_cons.mpr ⟨dX5_init_447, List.forall_mem_cons.mpr ⟨dX5_init_448, List.forall_mem_cons.mpr ⟨dX5_init_450, List.forall_mem_cons.mpr ⟨dX5_init_453, List.forall_mem_cons.mpr ⟨dX5_init_454, List.forall_mem_cons.mpr ⟨dX5_init_455, List.forall_mem_cons.mpr ⟨dX5_init_457, List.forall_mem_cons.mpr ⟨dX5_init_460, List.forall_mem_cons.mpr ⟨dX5_init_461, List.forall_mem_cons.mpr ⟨dX5_init_462, List.forall_mem_cons.mpr ⟨dX5_init_464, fun _ h => absurd h List.not_mem_nil⟩⟩⟩⟩⟩⟩⟩⟩⟩⟩⟩⟩⟩⟩⟩⟩⟩⟩⟩⟩⟩⟩⟩⟩⟩⟩⟩⟩⟩⟩⟩⟩⟩⟩⟩⟩⟩⟩⟩⟩
def mi_t56_7 : List (Nat × Instr × Nat) := [(467, .iastore, 1), (468, .dup, 1), (469, .bipush 69, 2), (471, .sipush 1003, 3), (474, .iastore, 1), (475, .dup, 1), (476, .bipush 70, 2), (478, .sipush 1008, 3), (481, .iastore, 1), (482, .dup, 1), (483, .bipush 71, 2), (485, .sipush 1001, 3), (488, .iastore, 1), (489, .dup, 1), (490, .bipush 72, 2), (492, .sipush 3061, 3), (495, .iastore, 1), (496, .dup, 1), (497, .bipush 73, 2), (499, .sipush 1001, 3), (502, .iastore, 1), (503, .dup, 1), (504, .bipush 74, 2), (506, .iconst 3, 1), (507, .iastore, 1), (508, .dup, 1), (509, .bipush 75, 2), (511, .sipush 1000, 3), (514, .iastore, 1), (515, .dup, 1), (516, .bipush 76, 2), (518, .sipush 1005, 3), (521, .iastore, 1), (522, .dup, 1), (523, .bipush 77, 2), (525, .sipush 1004, 3), (528, .iastore, 1), (529, .dup, 1), (530, .bipush 78, 2), (532, .sipush 1008, 3)]
theorem mi_k56_7 : ∀ q ∈ mi_t56_7, decode cX5_init q.1 = .ok q.2 := List.forall_mem_cons.mpr ⟨dX5_init_467, List.forall_mem_cons.mpr ⟨dX5_init_468, List.forall_mem_cons.mpr ⟨dX5_init_469, List.forall_mem_cons.mpr ⟨dX5_init_471, List.forall_mem_cons.mpr ⟨dX5_init_474, List.forall_mem_cons.mpr ⟨dX5_init_475, List.forall_mem_cons.mpr ⟨dX5_init_476, List.forall_mem_cons.mpr ⟨dX5_init_478, List.forall_mem_cons.mpr ⟨dX5_init_481, List.forall_mem_cons.mpr ⟨dX5_init_482, List.forall_mem_cons.mpr ⟨dX5_init_483, List.forall_mem_cons.mpr ⟨dX5_init_485, List.forall_mem_cons.mpr ⟨dX5_init_488, List.forall_mem_cons.mpr ⟨dX5_init_489, List.forall_mem_cons.mpr ⟨dX5_init_490, List.forall_mem_cons.mpr ⟨dX5_init_492, List.forall_mem_cons.mpr ⟨dX5_init_495, List.forall_mem_cons.mpr ⟨dX5_init_496, List.forall_mem_cons.mpr ⟨dX5_init_497, List.forall_mem_cons.mpr ⟨dX5_init_499, List.forall_mem_cons.mpr ⟨dX5_init_502, List.forall_mem_cons.mpr ⟨dX5_init_503, List.forall_mem_cons.mpr ⟨dX5_init_504, List.forall_mem_cons.mpr ⟨dX5_init_506, List.forall_mem_cons.mpr ⟨dX5_init_507, List.forall_mem_cons.mpr ⟨dX5_init_508, List.forall_mem_cons.mpr ⟨dX5_init_509, List.forall_mem_cons.mpr ⟨dX5_init_511, List.forall_mem_cons.mpr ⟨dX5_init_514, List.forall_mem_cons.mpr ⟨dX5_init_515, List.forall_mem_cons.mpr ⟨dX5_init_516, List.forall_mem_cons.mpr ⟨dX5_init_518, List.forall_mem_cons.mpr ⟨dX5_init_521, List.forall_mem_cons.mpr ⟨dX5_init_522, List.forall_mem_cons.mpr ⟨dX5_init_523, List.forall_mem_cons.mpr ⟨dX5_init_525, List.forall_mem_cons.mpr ⟨dX5_init_528, List.forall_mem_cons.mpr ⟨dX5_init_529, List.forall_mem_cons.mpr ⟨dX5_init_530, List.forall_mem_cons.mpr ⟨dX5_init_532, fun _ h => absurd h List.not_mem_nil⟩⟩⟩⟩⟩⟩⟩⟩⟩⟩⟩⟩⟩⟩⟩⟩⟩⟩⟩⟩⟩⟩⟩⟩⟩⟩⟩⟩⟩⟩⟩⟩⟩⟩⟩⟩⟩⟩⟩⟩
def mi_t56_8 : List (Nat × Instr × Nat) := [(535, .iastore, 1), (536, .dup, 1), (537, .bipush 79, 2), (539, .sipush 1001, 3), (542, .iastore, 1), (543, .dup, 1), (544, .bipush 80, 2), (546, .sipush 3062, 3), (549, .iastore, 1), (550, .dup, 1), (551, .bipush 81, 2), (553, .sipush 1001, 3), (556, .iastore, 1), (557, .dup, 1), (558, .bipush 82, 2), (560, .bipush 31, 2), (562, .iastore, 1), (563, .dup, 1), (564, .bipush 83, 2), (566, .sipush 1005, 3), (569, .iastore, 1), (570, .dup, 1), (571, .bipush 84, 2), (573, .sipush 1000, 3), (576, .iastore, 1), (577, .dup, 1), (578, .bipush 85, 2), (580, .sipush 1003, 3), (583, .iastore, 1), (584, .dup, 1), (585, .bipush 86, 2), (587, .sipush 1008, 3), (590, .iastore, 1), (591, .dup, 1), (592, .bipush 87, 2), (594, .sipush 1001, 3), (597, .iastore, 1), (598, .dup, 1), (599, .bipush 88, 2), (601, .sipush 3063, 3)]
theorem mi_k56_8 : ∀ q ∈ mi_t56_8, decode cX5_init q.1 = .ok q.2 := List.forall_mem_cons.mpr ⟨dX5_init_535, List.forall_mem_cons.mpr ⟨dX5_init_536, List.forall_mem_cons.mpr ⟨dX5_init_537, List.forall_mem_cons.mpr ⟨dX5_init_539, List.forall_mem_cons.mpr ⟨dX5_init_542, List.forall_mem_cons.mpr ⟨dX5_init_543, List.forall_mem_cons.mpr ⟨dX5_init_544, List.forall_mem_cons.mpr ⟨dX5_init_546, List.forall_mem_cons.mpr ⟨dX5_init_549, List.forall_mem_cons.mpr ⟨dX5_init_550, List.forall_mem_cons.mpr ⟨dX5_init_551, List.forall_mem_cons.mpr ⟨dX5_init_553, List.forall_mem_cons.mpr ⟨dX5_init_556, List.forall_mem_cons.mpr ⟨dX5_init_557, List.forall_mem_cons.mpr ⟨dX5_init_558, List.forall_mem_cons.mpr ⟨dX5_init_560, List.forall_mem_cons.mpr ⟨dX5_init_562, List.forall_mem_cons.mpr ⟨dX5_init_563, List.forall_mem_cons.mpr ⟨dX5_init_564, List.forall_mem_cons.mpr ⟨dX5_init_566, List.forall_mem_cons.mpr ⟨dX5_init_569, List.forall_mem_cons.mpr ⟨dX5_init_570, List.forall_mem_cons.mpr ⟨dX5_init_571, List.forall_mem_cons.mpr ⟨dX5_init_573, List.forall_mem_cons.mpr ⟨dX5_init_576, List.forall_mem_cons.mpr ⟨dX5_init_577, List.forall_mem_cons.mpr ⟨dX5_init_578, List.forall_mem_cons.mpr ⟨dX5_init_580, List.forall_mem_cons.mpr ⟨dX5_init_583, List.forall_mem_cons.mpr ⟨dX5_init_584, List.forall_mem_cons.mpr ⟨dX5_init_585, List.forall_mem_cons.mpr ⟨dX5_init_587, List.forall_mem_cons.mpr ⟨dX5_init_590, List.forall_mem_cons.mpr ⟨dX5_init_591, List.forall_mem_cons.mpr ⟨dX5_init_592, List.forall_mem_cons.mpr ⟨dX5_init_594, List.forall_mem_cons.mpr ⟨dX5_init_597, List.forall_mem_cons.mpr ⟨dX5_init_598, List.forall_mem_cons.mpr ⟨dX5_init_599, List.forall_mem_cons.mpr ⟨dX5_init_601, fun _ h => absurd h List.not_mem_nil⟩⟩⟩⟩⟩⟩⟩⟩⟩⟩⟩⟩⟩⟩⟩⟩⟩⟩⟩⟩⟩⟩⟩⟩⟩⟩⟩⟩⟩⟩⟩⟩⟩⟩⟩⟩⟩⟩⟩⟩
def mi_t56_9 : List (Nat × Instr × Nat) := [(604, .iastore, 1), (605, .dup, 1), (606, .bipush 89, 2), (608, .sipush 1001, 3), (611, .iastore, 1), (612, .dup, 1), (613, .bipush 90, 2), (615, .sipush 1000, 3), (618, .iastore, 1), (619, .dup, 1), (620, .bipush 91, 2), (622, .sipush 1006, 3), (625, .iastore, 1), (626, .dup, 1), (627, .bipush 92, 2), (629, .sipush 3064, 3), (632, .iastore, 1), (633, .dup, 1), (634, .bipush 93, 2), (636, .sipush 1000, 3), (639, .iastore, 1), (640, .dup, 1), (641, .bipush 94, 2), (643, .sipush 1109, 3), (646, .iastore, 1), (647, .dup, 1), (648, .bipush 95, 2), (650, .iconst 1, 1), (651, .iastore, 1), (652, .dup, 1), (653, .bipush 96, 2), (655, .sipush 1110, 3), (658, .iastore, 1), (659, .dup, 1), (660, .bipush 97, 2), (662, .sipush 1003, 3), (665, .iastore, 1), (666, .dup, 1), (667, .bipush 98, 2), (669, .sipush 1000, 3)]
theorem mi_k56_9 : ∀ q ∈ mi_t56_9, decode cX5_init q.1 = .ok q.2 := List.forall_mem_cons.mpr ⟨dX5_init_604, List.forall_mem_cons.mpr ⟨dX5_init_605, List.forall_mem_cons.mpr ⟨dX5_init_606, List.forall_mem_cons.mpr ⟨dX5_init_608, List.forall_mem_cons.mpr ⟨dX5_init_611, List.forall_mem_cons.mpr ⟨dX5_init_612, List.forall_mem_cons.mpr ⟨dX5_init_613, List.forall_mem_cons.mpr ⟨dX5_init_615, List.forall_mem_cons.mpr ⟨dX5_init_618, List.forall_mem_cons.mpr ⟨dX5_init_619, List.forall_mem_cons.mpr ⟨dX5_init_620, List.forall_mem_cons.mpr ⟨dX5_init_622, List.forall_mem_cons.mpr ⟨dX5_init_625, List.forall_mem_cons.mpr ⟨dX5_init_626, List.forall_mem_cons.mpr ⟨dX5_init_627, List.forall_mem_cons.mpr ⟨dX5_init_629, List.forall_mem_cons.mpr ⟨dX5_init_632, List.forall_mem_cons.mpr ⟨dX5_init_633, List.forall_mem_cons.mpr ⟨dX5_init_634, List.forall_mem_cons.mpr ⟨dX5_init_636, List.forall_mem_cons.mpr ⟨dX5_init_639, List.forall_mem_cons.mpr ⟨dX5_init_640, List.forall_mem_cons.mpr ⟨dX5_init_641, List.forall_mem_cons.mpr ⟨dX5_init_643, List.forall_mem_cons.mpr ⟨dX5_init_646, List.forall_mem_cons.mpr ⟨dX5_init_647, List.forall_mem_cons.mpr ⟨dX5_init_648, List.forall_mem_cons.mpr ⟨dX5_init_650, List.forall_mem_cons.mpr ⟨dX5_init_651, List.forall_mem_cons.mpr ⟨dX5_init_652, List.forall_mem_cons.mpr ⟨dX5_init_653, List.forall_mem_cons.mpr ⟨dX5_init_655, List.forall_mem_cons.mpr ⟨dX5_init_658, List.forall_mem_cons.mpr ⟨dX5_init_659, List.forall_mem_cons.mpr ⟨dX5_init_660, List.forall_mem_cons.mpr ⟨dX5_init_662, List.forall_mem_cons.mpr ⟨dX5_init_665, List.forall_mem_cons.mpr ⟨dX5_init_666, List.forall_mem_cons.mpr ⟨dX5_init_667, List.forall_mem_cons.mpr ⟨dX5_init_669, fun _ h => absurd h List.not_mem_nil⟩⟩⟩⟩⟩⟩⟩⟩⟩⟩⟩⟩⟩⟩⟩⟩⟩⟩⟩⟩⟩⟩⟩⟩⟩⟩⟩⟩⟩⟩⟩⟩⟩⟩⟩⟩⟩⟩⟩⟩
def mi_t56_10 : List (Nat × Instr × Nat) := [(672, .iastore, 1), (673, .dup, 1), (674, .bipush 99, 2), (676, .sipush 2063, 3), (679, .iastore, 1), (680, .dup, 1), (681, .bipush 100, 2), (683, .sipush 1003, 3), (686, .iastore, 1), (687, .dup, 1), (688, .bipush 101, 2), (690, .sipush 3070, 3), (693, .iastore, 1), (694, .dup, 1), (695, .bipush 102, 2), (697, .sipush 1002, 3), (700, .iastore, 1), (701, .dup, 1), (702, .bipush 103, 2), (704, .iconst 1, 1), (705, .iastore, 1), (706, .dup, 1), (707, .bipush 104, 2), (709, .sipush 1003, 3), (712, .iastore, 1), (713, .dup, 1), (714, .bipush 105, 2), (716, .sipush 1009, 3), (719, .iastore, 1), (720, .dup, 1), (721, .bipush 106, 2), (723, .sipush 1002, 3), (726, .iastore, 1), (727, .dup, 1), (728, .bipush 107, 2), (730, .bipush 7, 2), (732, .iastore, 1), (733, .dup, 1), (734, .bipush 108, 2), (736, .sipush 1005, 3)]
theorem mi_k56_10 : ∀ q ∈ mi_t56_10, decode cX5_init q.1 = .ok q.2 := List.forall_mem_cons.mpr ⟨dX5_init_672, List.forall_mem_cons.mpr ⟨dX5_init_673, List.forall_mem_cons.mpr ⟨dX5_init_674, List.forall_mem_cons.mpr ⟨dX5_init_676, List.forall_mem_cons.mpr ⟨dX5_init_679, List.forall_mem_cons.mpr ⟨dX5_init_680, List.forall_mem_cons.mpr ⟨dX5_init_681, List.forall_mem_cons.mpr ⟨dX5_init_683, List.forall_mem_cons.mpr ⟨dX5_init_686, List.forall_mem_cons.mpr ⟨dX5_init_687, List.forall_mem_cons.mpr ⟨dX5_init_688, List.forall_mem_cons.mpr ⟨dX5_init_690, List.forall_mem_cons.mpr ⟨dX5_init_693, List.forall_mem_cons.mpr ⟨dX5_init_694, List.forall_mem_cons.mpr ⟨dX5_init_695, List.forall_mem_cons.mpr ⟨dX5_init_697, List.forall_mem_cons.mpr ⟨dX5_init_700, List.forall_mem_cons.mpr ⟨dX5_init_701, List.forall_mem_cons.mpr ⟨dX5_init_702, List.forall_mem_cons.mpr ⟨dX5_init_704, List.forall_mem_cons.mpr ⟨dX5_init_705, List.forall_mem_cons.mpr ⟨dX5_init_706, List.forall_mem_cons.mpr ⟨dX5_init_707, List.forall_mem_cons.mpr ⟨dX5_init_709, List.forall_mem_cons.mpr ⟨dX5_init_712, List.forall_mem_cons.mpr ⟨dX5_init_713, List.forall_mem_cons.mpr ⟨dX5_init_714, List.forall_mem_cons.mpr ⟨dX5_init_716, List.forall_mem_cons.mpr ⟨dX5_init_719, List.forall_mem_cons.mpr ⟨dX5_init_720, List.forall_mem_cons.mpr ⟨dX5_init_721, List.forall_mem_cons.mpr ⟨dX5_init_723, List.forall_mem_cons.mpr ⟨dX5_init_726, List.forall_mem_cons.mpr ⟨dX5_init_727, List.forall_mem_cons.mpr ⟨dX5_init_728, List.forall_mem_cons.mpr ⟨dX5_init_730, List.forall_mem_cons.mpr ⟨dX5_init_732, List.forall_mem_cons.mpr ⟨dX5_init_733, List.forall_mem_cons.mpr ⟨dX5_init_734, List.forall_mem_cons.mpr ⟨dX5_init_736, fun _ h => absurd h List.not_mem_nil⟩⟩⟩⟩⟩⟩⟩⟩⟩⟩⟩⟩⟩⟩⟩⟩⟩⟩⟩⟩⟩⟩⟩⟩⟩⟩⟩⟩⟩⟩⟩⟩⟩⟩⟩⟩⟩⟩⟩⟩
def mi_t56_11 : List (Nat × Instr × Nat) := [(739, .iastore, 1), (740, .dup, 1), (741, .bipush 109, 2), (743, .sipush 1000, 3), (746, .iastore, 1), (747, .dup, 1), (748, .bipush 110, 2), (750, .sipush 1003, 3), (753, .iastore, 1), (754, .dup, 1), (755, .bipush 111, 2), (757, .sipush 3100, 3), (760, .iastore, 1), (761, .dup, 1), (762, .bipush 112, 2), (764, .sipush 1001, 3), (767, .iastore, 1), (768, .dup, 1), (769, .bipush 113, 2), (771, .sipush 1000, 3), (774, .iastore, 1), (775, .dup, 1), (776, .bipush 114, 2), (778, .sipush 1003, 3), (781, .iastore, 1), (782, .dup, 1), (783, .bipush 115, 2), (785, .sipush 3101, 3), (788, .iastore, 1), (789, .dup, 1), (790, .bipush 116, 2), (792, .sipush 1000, 3), (795, .iastore, 1), (796, .dup, 1), (797, .bipush 117, 2), (799, .iconst 2, 1), (800, .iastore, 1), (801, .dup, 1), (802, .bipush 118, 2), (804, .sipush 1003, 3)]
theorem mi_k56_11 : ∀ q ∈ mi_t56_11, decode cX5_init q.1 = .ok q.2 := List.forall_mem_cons.mpr ⟨dX5_init_739, List.forall_mem_cons.mpr ⟨dX5_init_740, List.forall_mem_cons.mpr ⟨dX5_init_741, List.forall_mem_cons.mpr ⟨dX5_init_743, List.forall_mem_cons.mpr ⟨dX5_init_746, List.forall_mem_cons.mpr ⟨dX5_init_747, List.forall_mem_cons.mpr ⟨dX5_init_748, List.forall_mem_cons.mpr ⟨dX5_init_750, List.forall_mem_cons.mpr ⟨dX5_init_753, List.forall_mem_cons.mpr ⟨dX5_init_754, List.forall_mem_cons.mpr ⟨dX5_init_755, List.forall_mem_cons.mpr ⟨dX5_init_757, List.forall_mem_cons.mpr ⟨dX5_init_760, List.forall_mem_cons.mpr ⟨dX5_init_761, List.forall_mem_cons.mpr ⟨dX5_init_762, List.forall_mem_cons.mpr ⟨dX5_init_764, List.forall_mem_cons.mpr ⟨dX5_init_767, List.forall_mem_cons.mpr ⟨dX5_init_768, List.forall_mem_cons.mpr ⟨dX5_init_769, List.forall_mem_cons.mpr ⟨dX5_init_771, List.forall_mem_cons.mpr ⟨dX5_init_774, List.forall_mem_cons.mpr ⟨dX5_init_775, List.forall_mem_cons.mpr ⟨dX5_init_776, List.forall_mem_cons.mpr ⟨dX5_init_778, List.forall_mem_cons.mpr ⟨dX5_init_781, List.forall_mem_cons.mpr ⟨dX5_init_782, List.forall_mem_cons.mpr ⟨dX5_init_783, List.forall_mem_cons.mpr ⟨dX5_init_785, List.forall_mem_cons.mpr ⟨dX5_init_788, List.forall_mem_cons.mpr ⟨dX5_init_789, List.forall_mem_cons.mpr ⟨dX5_init_790, List.forall_mem_cons.mpr ⟨dX5_init_792, List.forall_mem_cons.mpr ⟨dX5_init_795, List.forall_mem_cons.mpr ⟨dX5_init_796, List.forall_mem_cons.mpr ⟨dX5_init_797, List.forall_mem_cons.mpr ⟨dX5_init_799, List.forall_mem_cons.mpr ⟨dX5_init_800, List.forall_mem_cons.mpr ⟨dX5_init_801, List.forall_mem_cons.mpr ⟨dX5_init_802, List.forall_mem_cons.mpr ⟨dX5_init_804, fun _ h => absurd h List.not_mem_nil⟩⟩⟩⟩⟩⟩⟩⟩⟩⟩⟩⟩⟩⟩⟩⟩⟩⟩⟩⟩⟩⟩⟩⟩⟩⟩⟩⟩⟩⟩⟩⟩⟩⟩⟩⟩⟩⟩⟩⟩
def mi_t56_12 : List (Nat × Instr × Nat) := [(807, .iastore, 1), (808, .dup, 1), (809, .bipush 119, 2), (811, .sipush 1209, 3), (814, .iastore, 1), (815, .dup, 1), (816, .bipush 120, 2), (818, .iconst 1, 1), (819, .iastore, 1), (820, .dup, 1), (821, .bipush 121, 2), (823, .sipush 1003, 3), (826, .iastore, 1), (827, .dup, 1), (828, .bipush 122, 2), (830, .sipush 3110, 3), (833, .iastore, 1), (834, .dup, 1), (835, .bipush 123, 2), (837, .sipush 1000, 3), (840, .iastore, 1), (841, .dup, 1), (842, .bipush 124, 2), (844, .sipush 1210, 3), (847, .iastore, 1), (848, .dup, 1), (849, .bipush 125, 2), (851, .iconst 2, 1), (852, .iastore, 1), (853, .dup, 1), (854, .bipush 126, 2), (856, .sipush 1005, 3), (859, .iastore, 1), (860, .dup, 1), (861, .bipush 127, 2), (863, .sipush 1000, 3), (866, .iastore, 1), (867, .dup, 1), (868, .sipush 128, 3), (871, .sipush 2112, 3)]
theorem mi_k56_12 : ∀ q ∈ mi_t56_12, decode cX5_init q.1 = .ok q.2 := List.forall_mem_cons.mpr ⟨dX5_init_807, List.forall_mem_cons.mpr ⟨dX5_init_808, List.forall_mem_cons.mpr ⟨dX5_init_809, List.forall_mem_cons.mpr ⟨dX5_init_811, List.forall_mem_cons.mpr ⟨dX5_init_814, List.forall_mem_cons.mpr ⟨dX5_init_815, List.forall_mem_cons.mpr ⟨dX5_init_816, List.forall_mem_cons.mpr ⟨dX5_init_818, List.forall_mem_cons.mpr ⟨dX5_init_819, List.forall_mem_cons.mpr ⟨dX5_init_820, List.forall_mem_cons.mpr ⟨dX5_init_821, List.forall_mem_cons.mpr ⟨dX5_init_823, List.forall_mem_cons.mpr ⟨dX5_init_826, List.forall_mem_cons.mpr ⟨dX5_init_827, List.forall_mem_cons.mpr ⟨dX5_init_828, List.forall_mem_cons.mpr ⟨dX5_init_830, List.forall_mem_cons.mpr ⟨dX5_init_833, List.forall_mem_cons.mpr ⟨dX5_init_834, List.forall_mem_cons.mpr ⟨dX5_init_835, List.forall_mem_cons.mpr ⟨dX5_init_837, List.forall_mem_cons.mpr ⟨dX5_init_840, List.forall_mem_cons.mpr ⟨dX5_init_841, List.forall_mem_cons.mpr ⟨dX5_init_842, List.forall_mem_cons.mpr ⟨dX5_init_844, List.forall_mem_cons.mpr ⟨dX5_init_847, List.forall_mem_cons.mpr ⟨dX5_init_848, List.forall_mem_cons.mpr ⟨dX5_init_849, List.forall_mem_cons.mpr ⟨dX5_init_851, List.forall_mem_cons.mpr ⟨dX5_init_852, List.forall_mem_cons.mpr ⟨dX5_init_853, List.forall_mem_cons.mpr ⟨dX5_init_854, List.forall_mem_cons.mpr ⟨dX5_init_856, List.forall_mem_cons.mpr ⟨dX5_init_859, List.forall_mem_cons.mpr ⟨dX5_init_860, List.forall_mem_cons.mpr ⟨dX5_init_861, List.forall_mem_cons.mpr ⟨dX5_init_863, List.forall_mem_cons.mpr ⟨dX5_init_866, List.forall_mem_cons.mpr ⟨dX5_init_867, List.forall_mem_cons.mpr ⟨dX5_init_868, List.forall_mem_cons.mpr ⟨dX5_init_871, fun _ h => absurd h List.not_mem_nil⟩⟩⟩⟩⟩⟩⟩⟩⟩⟩⟩⟩⟩⟩⟩⟩⟩⟩⟩⟩⟩⟩⟩⟩⟩⟩⟩⟩⟩⟩⟩⟩⟩⟩⟩⟩⟩⟩⟩⟩
def mi_t56_13 : List (Nat × Instr × Nat) := [(874, .iastore, 1), (875, .dup, 1), (876, .sipush 129, 3), (879, .sipush 1003, 3), (882, .iastore, 1), (883, .dup, 1), (884, .sipush 130, 3), (887, .sipush 3111, 3), (890, .iastore, 1), (891, .dup, 1), (892, .sipush 131, 3), (895, .sipush 1000, 3), (898, .iastore, 1), (899, .dup, 1), (900, .sipush 132, 3), (903, .sipush 1328, 3), (906, .iastore, 1), (907, .dup, 1), (908, .sipush 133, 3), (911, .iconst 1, 1), (912, .iastore, 1), (913, .dup, 1), (914, .sipush 134, 3), (917, .sipush 1004, 3), (920, .iastore, 1), (921, .dup, 1), (922, .sipush 135, 3), (925, .sipush 3112, 3), (928, .iastore, 1), (929, .dup, 1), (930, .sipush 136, 3), (933, .sipush 1002, 3), (936, .iastore, 1), (937, .dup, 1), (938, .sipush 137, 3), (941, .sipush 1000, 3), (944, .iastore, 1), (945, .dup, 1), (946, .sipush 138, 3), (949, .sipush 1004, 3)]
theorem mi_k56_13 : ∀ q ∈ mi_t56_13, decode cX5_init q.1 = .ok q.2 := List.forall_mem_cons.mpr ⟨dX5_init_874, List.forall_mem_cons.mpr ⟨dX5_init_875, List.forall_mem_cons.mpr ⟨dX5_init_876, List.forall_mem_cons.mpr ⟨dX5_init_879, List.forall_mem_cons.mpr ⟨dX5_init_882, List.forall_mem_cons.mpr ⟨dX5_init_883, List.forall_mem_cons.mpr ⟨dX5_init_884, List.forall_mem_cons.mpr ⟨dX5_init_887, List.forall_mem_cons.mpr ⟨dX5_init_890, List.forall_mem_cons.mpr ⟨dX5_init_891, List.forall_mem_cons.mpr ⟨dX5_init_892, List.forall_mem_cons.mpr ⟨dX5_init_895, List.forall_mem_cons.mpr ⟨dX5_init_898, List.forall_mem_cons.mpr ⟨dX5_init_899, List.forall_mem_cons.mpr ⟨dX5_init_900, List.forall_mem_cons.mpr ⟨dX5_init_903, List.forall_mem_cons.mpr ⟨dX5_init_906, List.forall_mem_cons.mpr ⟨dX5_init_907, List.forall_mem_cons.mpr ⟨dX5_init_908, List.forall_mem_cons.mpr ⟨dX5_init_911, List.forall_mem_cons.mpr ⟨dX5_init_912, List.forall_mem_cons.mpr ⟨dX5_init_913, List.forall_mem_cons.mpr ⟨dX5_init_914, List.forall_mem_cons.mpr ⟨dX5_init_917, List.forall_mem_cons.mpr ⟨dX5_init_920, List.forall_mem_cons.mpr ⟨dX5_init_921, List.forall_mem_cons.mpr ⟨dX5_init_922, List.forall_mem_cons.mpr ⟨dX5_init_925, List.forall_mem_cons.mpr ⟨dX5_init_928, List.forall_mem_cons.mpr ⟨dX5_init_929, List.forall_mem_cons.mpr ⟨dX5_init_930, List.forall_mem_cons.mpr ⟨dX5_init_933, List.forall_mem_cons.mpr ⟨dX5_init_936, List.forall_mem_cons.mpr ⟨dX5_init_937, List.forall_mem_cons.mpr ⟨dX5_init_938, List.forall_mem_cons.mpr ⟨dX5_init_941, List.forall_mem_cons.mpr ⟨dX5_init_944, List.forall_mem_cons.mpr ⟨dX5_init_945, List.forall_mem_cons.mpr ⟨dX5_init_946, List.forall_mem_cons.mpr ⟨dX5_init_949, fun _ h => absurd h List.not_mem_nil⟩⟩⟩⟩⟩⟩⟩⟩⟩⟩⟩⟩⟩⟩⟩⟩⟩⟩⟩⟩⟩⟩⟩⟩⟩⟩⟩⟩⟩⟩⟩⟩⟩⟩⟩⟩⟩⟩⟩⟩
def mi_t56_14 : List (Nat × Instr × Nat) := [(952, .iastore, 1), (953, .dup, 1), (954, .sipush 139, 3), (957, .sipush 3120, 3), (960, .iastore, 1), (961, .dup, 1), (962, .sipush 140, 3), (965, .sipush 1000, 3), (968, .iastore, 1), (969, .dup, 1), (970, .sipush 141, 3), (973, .sipush 1105, 3), (976, .iastore, 1), (977, .dup, 1), (978, .sipush 142, 3), (981, .iconst 3, 1), (982, .iastore, 1), (983, .dup, 1), (984, .sipush 143, 3), (987, .sipush 1005, 3), (990, .iastore, 1), (991, .dup, 1), (992, .sipush 144, 3), (995, .sipush 1001, 3), (998, .iastore, 1), (999, .dup, 1), (1000, .sipush 145, 3), (1003, .sipush 1003, 3), (1006, .iastore, 1), (1007, .dup, 1), (1008, .sipush 146, 3), (1011, .sipush 3130, 3), (1014, .iastore, 1), (1015, .dup, 1), (1016, .sipush 147, 3), (1019, .sipush 1000, 3), (1022, .iastore, 1), (1023, .dup, 1), (1024, .sipush 148, 3), (1027, .sipush 1200, 3)]
theorem mi_k56_14 : ∀ q ∈ mi_t56_14, decode cX5_init q.1 = .ok q.2 := List.forall_mem_cons.mpr ⟨dX5_init_952, List.forall_mem_cons.mpr ⟨dX5_init_953, List.forall_mem_cons.mpr ⟨dX5_init_954, List.forall_mem_cons.mpr ⟨dX5_init_957, List.forall_mem_cons.mpr ⟨dX5_init_960, List.forall_mem_cons.mpr ⟨dX5_init_961, List.forall_mem_cons.mpr ⟨dX5_init_962, List.forall_mem_cons.mpr ⟨dX5_init_965, List.forall_mem_cons.mpr ⟨dX5_init_968, List.forall_mem_cons.mpr ⟨dX5_init_969, List.forall_mem_cons.mpr ⟨dX5_init_970, List.forall_mem_cons.mpr ⟨dX5_init_973, List.forall_mem_cons.mpr ⟨dX5_init_976, List.forall_mem_cons.mpr ⟨dX5_init_977, List.forall_mem_cons.mpr ⟨dX5_init_978, List.forall_mem_cons.mpr ⟨dX5_init_981, List.forall_mem_cons.mpr ⟨dX5_init_982, List.forall_mem_cons.mpr ⟨dX5_init_983, List.forall_mem_cons.mpr ⟨dX5_init_984, List.forall_mem_cons.mpr ⟨dX5_init_987, List.forall_mem_cons.mpr ⟨dX5_init_990, List.forall_mem_cons.mpr ⟨dX5_init_991, List.forall_mem_cons.mpr ⟨dX5_init_992, List.forall_mem_cons.mpr ⟨dX5_init_995, List.forall_mem_cons.mpr ⟨dX5_init_998, List.forall_mem_cons.mpr ⟨dX5_init_999, List.forall_mem_cons.mpr ⟨dX5_init_1000, List.forall_mem_cons.mpr ⟨dX5_init_1003, List.forall_mem_cons.mpr ⟨dX5_init_1006, List.forall_mem_cons.mpr ⟨dX5_init_1007, List.forall_mem_cons.mpr ⟨dX5_init_1008, List.forall_mem_cons.mpr ⟨dX5_init_1011, List.forall_mem_cons.mpr ⟨dX5_init_1014, List.forall_mem_cons.mpr ⟨dX5_init_1015, List.forall_mem_cons.mpr ⟨dX5_init_1016, List.forall_mem_cons.mpr ⟨dX5_init_1019, List.forall_mem_cons.mpr ⟨dX5_init_1022, List.forall_mem_cons.mpr ⟨dX5_init_1023, List.forall_mem_cons.mpr ⟨dX5_init_1024, List.forall_mem_cons.mpr ⟨dX5_init_1027, fun _ h => absurd h List.not_mem_nil⟩⟩⟩⟩⟩⟩⟩⟩⟩⟩⟩⟩⟩⟩⟩⟩⟩⟩⟩⟩⟩⟩⟩⟩⟩⟩⟩⟩⟩⟩⟩⟩⟩⟩⟩⟩⟩⟩⟩⟩
def mi_t56_15 : List (Nat × Instr × Nat) := [(1030, .iastore, 1), (1031, .dup, 1), (1032, .sipush 149, 3), (1035, .iconst 3, 1), (1036, .iastore, 1), (1037, .dup, 1), (1038, .sipush 150, 3), (1041, .sipush 1005, 3), (1044, .iastore, 1), (1045, .dup, 1), (1046, .sipush 151, 3), (1049, .sipush 3131, 3), (1052, .iastore, 1), (1053, .dup, 1), (1054, .sipush 152, 3), (1057, .sipush 1000, 3), (1060, .iastore, 1), (1061, .dup, 1), (1062, .sipush 153, 3), (1065, .iconst 1, 1), (1066, .iastore, 1), (1067, .dup, 1), (1068, .sipush 154, 3), (1071, .sipush 1003, 3), (1074, .iastore, 1), (1075, .dup, 1), (1076, .sipush 155, 3), (1079, .sipush 1201, 3), (1082, .iastore, 1), (1083, .dup, 1), (1084, .sipush 156, 3), (1087, .iconst 5, 1), (1088, .iastore, 1), (1089, .dup, 1), (1090, .sipush 157, 3), (1093, .sipush 1003, 3), (1096, .iastore, 1), (1097, .dup, 1), (1098, .sipush 158, 3), (1101, .sipush 3140, 3)]
theorem mi_k56_15 : ∀ q ∈ mi_t56_15, decode cX5_init q.1 = .ok q.2 := List.forall_mem_cons.mpr ⟨dX5_init_1030, List.forall_mem_cons.mpr ⟨dX5_init_1031, List.forall_mem_cons.mpr ⟨dX5_init_1032, List.forall_mem_cons.mpr ⟨dX5_init_1035, List.forall_mem_cons.mpr ⟨dX5_init_1036, List.forall_mem_cons.mpr ⟨dX5_init_1037, List.forall_mem_cons.mpr ⟨dX5_init_1038, List.forall_mem_cons.mpr ⟨dX5_init_1041, List.forall_mem_cons.mpr ⟨dX5_init_1044, List.forall_mem_cons.mpr ⟨dX5_init_1045, List.forall_mem_cons.mpr ⟨dX5_init_1046, List.forall_mem_cons.mpr ⟨dX5_init_1049, List.forall_mem_cons.mpr ⟨dX5_init_1052, List.forall_mem_cons.mpr ⟨dX5_init_1053, List.forall_mem_cons.mpr ⟨dX5_init_1054, List.forall_mem_cons.mpr ⟨dX5_init_1057, List.forall_mem_cons.mpr ⟨dX5_init_1060, List.forall_mem_cons.mpr ⟨dX5_init_1061, List.forall_mem_cons.mpr ⟨dX5_init_1062, List.forall_mem_cons.mpr ⟨dX5_init_1065, List.forall_mem_cons.mpr ⟨dX5_init_1066, List.forall_mem_cons.mpr ⟨dX5_init_1067, List.forall_mem_cons.mpr ⟨dX5_init_1068, List.forall_mem_cons.mpr ⟨dX5_init_1071, List.forall_mem_cons.mpr ⟨dX5_init_1074, List.forall_mem_cons.mpr ⟨dX5_init_1075, List.forall_mem_cons.mpr ⟨dX5_init_1076, List.forall_mem_cons.mpr ⟨dX5_init_1079, List.forall_mem_cons.mpr ⟨dX5_init_1082, List.forall_mem_cons.mpr ⟨dX5_init_1083, List.forall_mem_cons.mpr ⟨dX5_init_1084, List.forall_mem_cons.mpr ⟨dX5_init_1087, List.forall_mem_cons.mpr ⟨dX5_init_1088, List.forall_mem_cons.mpr ⟨dX5_init_1089, List.forall_mem_cons.mpr ⟨dX5_init_1090, List.forall_mem_cons.mpr ⟨dX5_init_1093, List.forall_mem_cons.mpr ⟨dX5_init_1096, List.forall_mem_cons.mpr ⟨dX5_init_1097, List.forall_mem_cons.mpr ⟨dX5_init_1098, List.forall_mem_cons.mpr ⟨dX5_init_1101, fun _ h => absurd h List.not_mem_nil⟩⟩⟩⟩⟩⟩⟩⟩⟩⟩⟩⟩⟩⟩⟩⟩⟩⟩⟩⟩⟩⟩⟩⟩⟩⟩⟩⟩⟩⟩⟩⟩⟩⟩⟩⟩⟩⟩⟩⟩
def mi_t56_16 : List (Nat × Instr × Nat) := [(1104, .iastore, 1), (1105, .dup, 1), (1106, .sipush 159, 3), (1109, .sipush 1001, 3), (1112, .iastore, 1), (1113, .dup, 1), (1114, .sipush 160, 3), (1117, .sipush 1000, 3), (1120, .iastore, 1), (1121, .dup, 1), (1122, .sipush 161, 3), (1125, .sipush 1004, 3), (1128, .iastore, 1), (1129, .dup, 1), (1130, .sipush 162, 3), (1133, .sipush 3141, 3), (1136, .iastore, 1), (1137, .dup, 1), (1138, .sipush 163, 3), (1141, .sipush 1000, 3), (1144, .iastore, 1), (1145, .dup, 1), (1146, .sipush 164, 3), (1149, .sipush 1202, 3), (1152, .iastore, 1), (1153, .dup, 1), (1154, .sipush 165, 3), (1157, .iconst 1, 1), (1158, .iastore, 1), (1159, .dup, 1), (1160, .sipush 166, 3), (1163, .sipush 1314, 3), (1166, .iastore, 1), (1167, .dup, 1), (1168, .sipush 167, 3), (1171, .sipush 1004, 3), (1174, .iastore, 1), (1175, .dup, 1), (1176, .sipush 168, 3), (1179, .sipush 3142, 3)]
theorem mi_k56_16 : ∀ q ∈ mi_t56_16, decode cX5_init q.1 = .ok q.2 := List.forall_mem_cons.mpr ⟨dX5_init_1104, List.forall_mem_cons.mpr ⟨dX5_init_1105, List.forall_mem_cons.mpr ⟨dX5_init_1106, List.forall_mem_cons.mpr ⟨dX5_init_1109, List.forall_mem_cons.mpr ⟨dX5_init_1112, List.forall_mem_cons.mpr ⟨dX5_init_1113, List.forall_mem_cons.mpr ⟨dX5_init_1114, List.forall_mem_cons.mpr ⟨dX5_init_1117, List.forall_mem_cons.mpr ⟨dX5_init_1120, List.forall_mem_cons.mpr ⟨dX5_init_1121, List.forall_mem_cons.mpr ⟨dX5_init_1122, List.forall_mem_cons.mpr ⟨dX5_init_1125, List.forall_mem_cons.mpr ⟨dX5_init_1128, List.forall_mem_cons.mpr ⟨dX5_init_1129, List.forall_mem_cons.mpr ⟨dX5_init_1130, List.forall_mem_cons.mpr ⟨dX5_init_1133, List.forall_mem_cons.mpr ⟨dX5_init_1136, List.forall_mem_cons.mpr ⟨dX5_init_1137, List.forall_mem_cons.mpr ⟨dX5_init_1138, List.forall_mem_cons.mpr ⟨dX5_init_1141, List.forall_mem_cons.mpr ⟨dX5_init_1144, List.forall_mem_cons.mpr ⟨dX5_init_1145, List.forall_mem_cons.mpr ⟨dX5_init_1146, List.forall_mem_cons.mpr ⟨dX5_init_1149, List.forall_mem_cons.mpr ⟨dX5_init_1152, List.forall_mem_cons.mpr ⟨dX5_init_1153, List.forall_mem_cons.mpr ⟨dX5_init_1154, List.forall_mem_cons.mpr ⟨dX5_init_1157, List.forall_mem_cons.mpr ⟨dX5_init_1158, List.forall_mem_cons.mpr ⟨dX5_init_1159, List.forall_mem_cons.mpr ⟨dX5_init_1160, List.forall_mem_cons.mpr ⟨dX5_init_1163, List.forall_mem_cons.mpr ⟨dX5_init_1166, List.forall_mem_cons.mpr ⟨dX5_init_1167, List.forall_mem_cons.mpr ⟨dX5_init_1168, List.forall_mem_cons.mpr ⟨dX5_init_1171, List.forall_mem_cons.mpr ⟨dX5_init_1174, List.forall_mem_cons.mpr ⟨dX5_init_1175, List.forall_mem_cons.mpr ⟨dX5_init_1176, List.forall_mem_cons.mpr ⟨dX5_init_1179, fun _ h => absurd h List.not_mem_nil⟩⟩⟩⟩⟩⟩⟩⟩⟩⟩⟩⟩⟩⟩⟩⟩⟩⟩⟩⟩⟩⟩⟩⟩⟩⟩⟩⟩⟩⟩⟩⟩⟩⟩⟩⟩⟩⟩⟩⟩
def mi_t56_17 : List (Nat × Instr × Nat) := [(1182, .iastore, 1), (1183, .dup, 1), (1184, .sipush 169, 3), (1187, .sipush 1000, 3), (1190, .iastore, 1), (1191, .dup, 1), (1192, .sipush 170, 3), (1195, .iconst 1, 1), (1196, .iastore, 1), (1197, .dup, 1), (1198, .sipush 171, 3), (1201, .sipush 1003, 3), (1204, .iastore, 1), (1205, .dup, 1), (1206, .sipush 172, 3), (1209, .sipush 1210, 3), (1212, .iastore, 1), (1213, .dup, 1), (1214, .sipush 173, 3), (1217, .iconst 4, 1), (1218, .iastore, 1), (1219, .dup, 1), (1220, .sipush 174, 3), (1223, .sipush 1003, 3), (1226, .iastore, 1), (1227, .dup, 1), (1228, .sipush 175, 3), (1231, .sipush 3150, 3), (1234, .iastore, 1), (1235, .dup, 1), (1236, .sipush 176, 3), (1239, .sipush 1000, 3), (1242, .iastore, 1), (1243, .dup, 1), (1244, .sipush 177, 3), (1247, .sipush 1105, 3), (1250, .iastore, 1), (1251, .dup, 1), (1252, .sipush 178, 3), (1255, .sipush 1001, 3)]
theorem mi_k56_17 : ∀ q ∈ mi_t56_17, decode cX5_init q.1 = .ok q.2 := List.forall_mem_cons.mpr ⟨dX5_init_1182, List.forall_mem_cons.mpr ⟨dX5_init_1183, List.forall_mem_cons.mpr ⟨dX5_init_1184, List.forall_mem_cons.mpr ⟨dX5_init_1187, List.forall_mem_cons.mpr ⟨dX5_init_1190, List.forall_mem_cons.mpr ⟨dX5_init_1191, List.forall_mem_cons.mpr ⟨dX5_init_1192, List.forall_mem_cons.mpr ⟨dX5_init_1195, List.forall_mem_cons.mpr ⟨dX5_init_1196, List.forall_mem_cons.mpr ⟨dX5_init_1197, List.forall_mem_cons.mpr ⟨dX5_init_1198, List.forall_mem_cons.mpr ⟨dX5_init_1201, List.forall_mem_cons.mpr ⟨dX5_init_1204, List.forall_mem_cons.mpr ⟨dX5_init_1205, List.forall_mem_cons.mpr ⟨dX5_init_1206, List.forall_mem_cons.mpr ⟨dX5_init_1209, List.forall_mem_cons.mpr ⟨dX5_init_1212, List.forall_mem_cons.mpr ⟨dX5_init_1213, List.forall_mem_cons.mpr ⟨dX5_init_1214, List.forall_mem_cons.mpr ⟨dX5_init_1217, List.forall_mem_cons.mpr ⟨dX5_init_1218, List.forall_mem_cons.mpr ⟨dX5_init_1219, List.forall_mem_cons.mpr ⟨dX5_init_1220, List.forall_mem_cons.mpr ⟨dX5_init_1223, List.forall_mem_cons.mpr ⟨dX5_init_1226, List.forall_mem_cons.mpr ⟨dX5_init_1227, List.forall_mem_cons.mpr ⟨dX5_init_1228, List.forall_mem_cons.mpr ⟨dX5_init_1231, List.forall_mem_cons.mpr ⟨dX5_init_1234, List.forall_mem_cons.mpr ⟨dX5_init_1235, List.forall_mem_cons.mpr ⟨dX5_init_1236, List.forall_mem_cons.mpr ⟨dX5_init_1239, List.forall_mem_cons.mpr ⟨dX5_init_1242, List.forall_mem_cons.mpr ⟨dX5_init_1243, List.forall_mem_cons.mpr ⟨dX5_init_1244, List.forall_mem_cons.mpr ⟨dX5_init_1247, List.forall_mem_cons.mpr ⟨dX5_init_1250, List.forall_mem_cons.mpr ⟨dX5_init_1251, List.forall_mem_cons.mpr ⟨dX5_init_1252, List.forall_mem_cons.mpr ⟨dX5_init_1255, fun _ h => absurd h List.not_mem_nil⟩⟩⟩⟩⟩⟩⟩⟩⟩⟩⟩⟩⟩⟩⟩⟩⟩⟩⟩⟩⟩⟩⟩⟩⟩⟩⟩⟩⟩⟩⟩⟩⟩⟩⟩⟩⟩⟩⟩⟩
def mi_t56_18 : List (Nat × Instr × Nat) := [(1258, .iastore, 1), (1259, .dup, 1), (1260, .sipush 179, 3), (1263, .sipush 1003, 3), (1266, .iastore, 1), (1267, .dup, 1), (1268, .sipush 180, 3), (1271, .sipush 3151, 3), (1274, .iastore, 1), (1275, .dup, 1), (1276, .sipush 181, 3), (1279, .sipush 1000, 3), (1282, .iastore, 1), (1283, .dup, 1), (1284, .sipush 182, 3), (1287, .sipush 1209, 3), (1290, .iastore, 1), (1291, .dup, 1), (1292, .sipush 183, 3), (1295, .iconst 0, 1), (1296, .iastore, 1), (1297, .dup, 1), (1298, .sipush 184, 3), (1301, .sipush 1102, 3), (1304, .iastore, 1), (1305, .dup, 1), (1306, .sipush 185, 3), (1309, .sipush 1006, 3), (1312, .iastore, 1), (1313, .dup, 1), (1314, .sipush 186, 3), (1317, .sipush 3152, 3), (1320, .iastore, 1), (1321, .dup, 1), (1322, .sipush 187, 3), (1325, .sipush 1000, 3), (1328, .iastore, 1), (1329, .dup, 1), (1330, .sipush 188, 3), (1333, .sipush 1340, 3)]
theorem mi_k56_18 : ∀ q ∈ mi_t56_18, decode cX5_init q.1 = .ok q.2 := List.forall_mem_cons.mpr ⟨dX5_init_1258, List.forall_mem_cons.mpr ⟨dX5_init_1259, List.forall_mem_cons.mpr ⟨dX5_init_1260, List.forall_mem_cons.mpr ⟨dX5_init_1263, List.forall_mem_cons.mpr ⟨dX5_init_1266, List.forall_mem_cons.mpr ⟨dX5_init_1267, List.forall_mem_cons.mpr ⟨dX5_init_1268, List.forall_mem_cons.mpr ⟨dX5_init_1271, List.forall_mem_cons.mpr ⟨dX5_init_1274, List.forall_mem_cons.mpr ⟨dX5_init_1275, List.forall_mem_cons.mpr ⟨dX5_init_1276, List.forall_mem_cons.mpr ⟨dX5_init_1279, List.forall_mem_cons.mpr ⟨dX5_init_1282, List.forall_mem_cons.mpr ⟨dX5_init_1283, List.forall_mem_cons.mpr ⟨dX5_init_1284, List.forall_mem_cons.mpr ⟨dX5_init_1287, List.forall_mem_cons.mpr ⟨dX5_init_1290, List.forall_mem_cons.mpr ⟨dX5_init_1291, List.forall_mem_cons.mpr ⟨dX5_init_1292, List.forall_mem_cons.mpr ⟨dX5_init_1295, List.forall_mem_cons.mpr ⟨dX5_init_1296, List.forall_mem_cons.mpr ⟨dX5_init_1297, List.forall_mem_cons.mpr ⟨dX5_init_1298, List.forall_mem_cons.mpr ⟨dX5_init_1301, List.forall_mem_cons.mpr ⟨dX5_init_1304, List.forall_mem_cons.mpr ⟨dX5_init_1305, List.forall_mem_cons.mpr ⟨dX5_init_1306, List.forall_mem_cons.mpr ⟨dX5_init_1309, List.forall_mem_cons.mpr ⟨dX5_init_1312, List.forall_mem_cons.mpr ⟨dX5_init_1313, List.forall_mem_cons.mpr ⟨dX5_init_1314, List.forall_mem_cons.mpr ⟨dX5_init_1317, List.forall_mem_cons.mpr ⟨dX5_init_1320, List.forall_mem_cons.mpr ⟨dX5_init_1321, List.forall_mem_cons.mpr ⟨dX5_init_1322, List.forall_mem_cons.mpr ⟨dX5_init_1325, List.forall_mem_cons.mpr ⟨dX5_init_1328, List.forall_mem_cons.mpr ⟨dX5_init_1329, List.forall_mem_cons.mpr ⟨dX5_init_1330, List.forall_mem_cons.mpr ⟨dX5_init_1333, fun _ h => absurd h List.not_mem_nil⟩⟩⟩⟩⟩⟩⟩⟩⟩⟩⟩⟩⟩⟩⟩⟩⟩⟩⟩⟩⟩⟩⟩⟩⟩⟩⟩⟩⟩⟩⟩⟩⟩⟩⟩⟩⟩⟩⟩⟩
def mi_t56_19 : List (Nat × Instr × Nat) := [(1336, .iastore, 1), (1337, .dup, 1), (1338, .sipush 189, 3), (1341, .iconst 1, 1), (1342, .iastore, 1), (1343, .dup, 1), (1344, .sipush 190, 3), (1347, .sipush 1003, 3), (1350, .iastore, 1), (1351, .dup, 1), (1352, .sipush 191, 3), (1355, .sipush 3160, 3), (1358, .iastore, 1), (1359, .dup, 1), (1360, .sipush 192, 3), (1363, .sipush 1000, 3), (1366, .iastore, 1), (1367, .dup, 1), (1368, .sipush 193, 3), (1371, .sipush 3161, 3), (1374, .iastore, 1), (1375, .dup, 1), (1376, .sipush 194, 3), (1379, .sipush 1000, 3), (1382, .iastore, 1), (1383, .dup, 1), (1384, .sipush 195, 3), (1387, .sipush 1368, 3), (1390, .iastore, 1), (1391, .dup, 1), (1392, .sipush 196, 3), (1395, .sipush 255, 3), (1398, .iastore, 1), (1399, .dup, 1), (1400, .sipush 197, 3), (1403, .sipush 1007, 3), (1406, .iastore, 1), (1407, .dup, 1), (1408, .sipush 198, 3), (1411, .sipush 3162, 3)]
theorem mi_k56_19 : ∀ q ∈ mi_t56_19, decode cX5_init q.1 = .ok q.2 := List.forall_mem_cons.mpr ⟨dX5_init_1336, List.forall_mem_cons.mpr ⟨dX5_init_1337, List.forall_mem_cons.mpr ⟨dX5_init_1338, List.forall_mem_cons.mpr ⟨dX5_init_1341, List.forall_mem_cons.mpr ⟨dX5_init_1342, List.forall_mem_cons.mpr ⟨dX5_init_1343, List.forall_mem_cons.mpr ⟨dX5_init_1344, List.forall_mem_cons.mpr ⟨dX5_init_1347, List.forall_mem_cons.mpr ⟨dX5_init_1350, List.forall_mem_cons.mpr ⟨dX5_init_1351, List.forall_mem_cons.mpr ⟨dX5_init_1352, List.forall_mem_cons.mpr ⟨dX5_init_1355, List.forall_mem_cons.mpr ⟨dX5_init_1358, List.forall_mem_cons.mpr ⟨dX5_init_1359, List.forall_mem_cons.mpr ⟨dX5_init_1360, List.forall_mem_cons.mpr ⟨dX5_init_1363, List.forall_mem_cons.mpr ⟨dX5_init_1366, List.forall_mem_cons.mpr ⟨dX5_init_1367, List.forall_mem_cons.mpr ⟨dX5_init_1368, List.forall_mem_cons.mpr ⟨dX5_init_1371, List.forall_mem_cons.mpr ⟨dX5_init_1374, List.forall_mem_cons.mpr ⟨dX5_init_1375, List.forall_mem_cons.mpr ⟨dX5_init_1376, List.forall_mem_cons.mpr ⟨dX5_init_1379, List.forall_mem_cons.mpr ⟨dX5_init_1382, List.forall_mem_cons.mpr ⟨dX5_init_1383, List.forall_mem_cons.mpr ⟨dX5_init_1384, List.forall_mem_cons.mpr ⟨dX5_init_1387, List.forall_mem_cons.mpr ⟨dX5_init_1390, List.forall_mem_cons.mpr ⟨dX5_init_1391, List.forall_mem_cons.mpr ⟨dX5_init_1392, List.forall_mem_cons.mpr ⟨dX5_init_1395, List.forall_mem_cons.mpr ⟨dX5_init_1398, List.forall_mem_cons.mpr ⟨dX5_init_1399, List.forall_mem_cons.mpr ⟨dX5_init_1400, List.forall_mem_cons.mpr ⟨dX5_init_1403, List.forall_mem_cons.mpr ⟨dX5_init_1406, List.forall_mem_cons.mpr ⟨dX5_init_1407, List.forall_mem_cons.mpr ⟨dX5_init_1408, List.forall_mem_cons.mpr ⟨dX5_init_1411, fun _ h => absurd h List.not_mem_nil⟩⟩⟩⟩⟩⟩⟩⟩⟩⟩⟩⟩⟩⟩⟩⟩⟩⟩⟩⟩⟩⟩⟩⟩⟩⟩⟩⟩⟩⟩⟩⟩⟩⟩⟩⟩⟩⟩⟩⟩
def mi_t56_20 : List (Nat × Instr × Nat) := [(1414, .iastore, 1), (1415, .dup, 1), (1416, .sipush 199, 3), (1419, .sipush 1000, 3), (1422, .iastore, 1), (1423, .dup, 1), (1424, .sipush 200, 3), (1427, .bipush 99, 2), (1429, .iastore, 1), (1430, .dup, 1), (1431, .sipush 201, 3), (1434, .sipush 1003, 3), (1437, .iastore, 1), (1438, .dup, 1), (1439, .sipush 202, 3), (1442, .sipush 3163, 3), (1445, .iastore, 1), (1446, .dup, 1), (1447, .sipush 203, 3), (1450, .sipush 1000, 3), (1453, .iastore, 1), (1454, .dup, 1), (1455, .sipush 204, 3), (1458, .sipush 2162, 3), (1461, .iastore, 1), (1462, .dup, 1), (1463, .sipush 205, 3), (1466, .iconst 1, 1), (1467, .iastore, 1), (1468, .dup, 1), (1469, .sipush 206, 3), (1472, .sipush 1209, 3), (1475, .iastore, 1), (1476, .dup, 1), (1477, .sipush 207, 3), (1480, .sipush 1003, 3), (1483, .iastore, 1), (1484, .dup, 1), (1485, .sipush 208, 3), (1488, .sipush 3180, 3)]
theorem mi_k56_20 : ∀ q ∈ mi_t56_20, decode cX5_init q.1 = .ok q.2 := List.forall_mem_cons.mpr ⟨dX5_init_1414, List.forall_mem_cons.mpr ⟨dX5_init_1415, List.forall_mem_cons.mpr ⟨dX5_init_1416, List.forall_mem_cons.mpr ⟨dX5_init_1419, List.forall_mem_cons.mpr ⟨dX5_init_1422, List.forall_mem_cons.mpr ⟨dX5_init_1423, List.forall_mem_cons.mpr ⟨dX5_init_1424, List.forall_mem_cons.mpr ⟨dX5_init_1427, List.forall_mem_cons.mpr ⟨dX5_init_1429, List.forall_mem_cons.mpr ⟨dX5_init_1430, List.forall_mem_cons.mpr ⟨dX5_init_1431, List.forall_mem_cons.mpr ⟨dX5_init_1434, List.forall_mem_cons.mpr ⟨dX5_init_1437, List.forall_mem_cons.mpr ⟨dX5_init_1438, List.forall_mem_cons.mpr ⟨dX5_init_1439, List.forall_mem_cons.mpr ⟨dX5_init_1442, List.forall_mem_cons.mpr ⟨dX5_init_1445, List.forall_mem_cons.mpr ⟨dX5_init_1446, List.forall_mem_cons.mpr ⟨dX5_init_1447, List.forall_mem_cons.mpr ⟨dX5_init_1450, List.forall_mem_cons.mpr ⟨dX5_init_1453, List.forall_mem_cons.mpr ⟨dX5_init_1454, List.forall_mem_cons.mpr ⟨dX5_init_1455, List.forall_mem_cons.mpr ⟨dX5_init_1458, List.forall_mem_cons.mpr ⟨dX5_init_1461, List.forall_mem_cons.mpr ⟨dX5_init_1462, List.forall_mem_cons.mpr ⟨dX5_init_1463, List.forall_mem_cons.mpr ⟨dX5_init_1466, List.forall_mem_cons.mpr ⟨dX5_init_1467, List.forall_mem_cons.mpr ⟨dX5_init_1468, List.forall_mem_cons.mpr ⟨dX5_init_1469, List.forall_mem_cons.mpr ⟨dX5_init_1472, List.forall_mem_cons.mpr ⟨dX5_init_1475, List.forall_mem_cons.mpr ⟨dX5_init_1476, List.forall_mem_cons.mpr ⟨dX5_init_1477, List.forall_mem_cons.mpr ⟨dX5_init_1480, List.forall_mem_cons.mpr ⟨dX5_init_1483, List.forall_mem_cons.mpr ⟨dX5_init_1484, List.forall_mem_cons.mpr ⟨dX5_init_1485, List.forall_mem_cons.mpr ⟨dX5_init_1488, fun _ h => absurd h List.not_mem_nil⟩⟩⟩⟩⟩⟩⟩⟩⟩⟩⟩⟩⟩⟩⟩⟩⟩⟩⟩⟩⟩⟩⟩⟩⟩⟩⟩⟩⟩⟩⟩⟩⟩⟩⟩⟩⟩⟩⟩⟩
def mi_t56_21 : List (Nat × Instr × Nat) := [(1491, .iastore, 1), (1492, .dup, 1), (1493, .sipush 209, 3), (1496, .sipush 1000, 3), (1499, .iastore, 1), (1500, .dup, 1), (1501, .sipush 210, 3), (1504, .sipush 1209, 3), (1507, .iastore, 1), (1508, .dup, 1), (1509, .sipush 211, 3), (1512, .iconst 1, 1), (1513, .iastore, 1), (1514, .dup, 1), (1515, .sipush 212, 3), (1518, .sipush 1004, 3), (1521, .iastore, 1), (1522, .dup, 1), (1523, .sipush 213, 3), (1526, .sipush 3181, 3), (1529, .iastore, 1), (1530, .dup, 1), (1531, .sipush 214, 3), (1534, .sipush 1000, 3), (1537, .iastore, 1), (1538, .dup, 1), (1539, .sipush 215, 3), (1542, .sipush 1202, 3), (1545, .iastore, 1), (1546, .dup, 1), (1547, .sipush 216, 3), (1550, .iconst 2, 1), (1551, .iastore, 1), (1552, .dup, 1), (1553, .sipush 217, 3), (1556, .sipush 1101, 3), (1559, .iastore, 1), (1560, .dup, 1), (1561, .sipush 218, 3), (1564, .sipush 1003, 3)]
theorem mi_k56_21 : ∀ q ∈ mi_t56_21, decode cX5_init q.1 = .ok q.2 := List.forall_mem_cons.mpr ⟨dX5_init_1491, List.forall_mem_cons.mpr ⟨dX5_init_1492, List.forall_mem_cons.mpr ⟨dX5_init_1493, List.forall_mem_cons.mpr ⟨dX5_init_1496, List.forall_mem_cons.mpr ⟨dX5_init_1499, List.forall_mem_cons.mpr ⟨dX5_init_1500, List.forall_mem_cons.mpr ⟨dX5_init_1501, List.forall_mem_cons.mpr ⟨dX5_init_1504, List.forall_mem_cons.mpr ⟨dX5_init_1507, List.forall_mem_cons.mpr ⟨dX5_init_1508, List.forall_mem_cons.mpr ⟨dX5_init_1509, List.forall_mem_cons.mpr ⟨dX5_init_1512, List.forall_mem_cons.mpr ⟨dX5_init_1513, List.forall_mem_cons.mpr ⟨dX5_init_1514, List.forall_mem_cons.mpr ⟨dX5_init_1515, List.forall_mem_cons.mpr ⟨dX5_init_1518, List.forall_mem_cons.mpr ⟨dX5_init_1521, List.forall_mem_cons.mpr ⟨dX5_init_1522, List.forall_mem_cons.mpr ⟨dX5_init_1523, List.forall_mem_cons.mpr ⟨dX5_init_1526, List.forall_mem_cons.mpr ⟨dX5_init_1529, List.forall_mem_cons.mpr ⟨dX5_init_1530, List.forall_mem_cons.mpr ⟨dX5_init_1531, List.forall_mem_cons.mpr ⟨dX5_init_1534, List.forall_mem_cons.mpr ⟨dX5_init_1537, List.forall_mem_cons.mpr ⟨dX5_init_1538, List.forall_mem_cons.mpr ⟨dX5_init_1539, List.forall_mem_cons.mpr ⟨dX5_init_1542, List.forall_mem_cons.mpr ⟨dX5_init_1545, List.forall_mem_cons.mpr ⟨dX5_init_1546, List.forall_mem_cons.mpr ⟨dX5_init_1547, List.forall_mem_cons.mpr ⟨dX5_init_1550, List.forall_mem_cons.mpr ⟨dX5_init_1551, List.forall_mem_cons.mpr ⟨dX5_init_1552, List.forall_mem_cons.mpr ⟨dX5_init_1553, List.forall_mem_cons.mpr ⟨dX5_init_1556, List.forall_mem_cons.mpr ⟨dX5_init_1559, List.forall_mem_cons.mpr ⟨dX5_init_1560, List.forall_mem_cons.mpr ⟨dX5_init_1561, List.forall_mem_cons.mpr ⟨dX5_init_1564, fun _ h => absurd h List.not_mem_nil⟩⟩⟩⟩⟩⟩⟩⟩⟩⟩⟩⟩⟩⟩⟩⟩⟩⟩⟩⟩⟩⟩⟩⟩⟩⟩⟩⟩⟩⟩⟩⟩⟩⟩⟩⟩⟩⟩⟩⟩
def mi_t56_22 : List (Nat × Instr × Nat) := [(1567, .iastore, 1), (1568, .dup, 1), (1569, .sipush 219, 3), (1572, .sipush 3190, 3), (1575, .iastore, 1), (1576, .dup, 1), (1577, .sipush 220, 3), (1580, .sipush 1000, 3), (1583, .iastore, 1), (1584, .dup, 1), (1585, .sipush 221, 3), (1588, .sipush 1110, 3), (1591, .iastore, 1), (1592, .dup, 1), (1593, .sipush 222, 3), (1596, .iconst 2, 1), (1597, .iastore, 1), (1598, .dup, 1), (1599, .sipush 223, 3), (1602, .sipush 1005, 3), (1605, .iastore, 1), (1606, .dup, 1), (1607, .sipush 224, 3), (1610, .sipush 3200, 3), (1613, .iastore, 1), (1614, .dup, 1), (1615, .sipush 225, 3), (1618, .sipush 1002, 3), (1621, .iastore, 1), (1622, .dup, 1), (1623, .sipush 226, 3), (1626, .sipush 1000, 3), (1629, .iastore, 1), (1630, .dup, 1), (1631, .sipush 227, 3), (1634, .sipush 1003, 3), (1637, .iastore, 1), (1638, .dup, 1), (1639, .sipush 228, 3), (1642, .sipush 3201, 3)]
theorem mi_k56_22 : ∀ q ∈ mi_t56_22, decode cX5_init q.1 = .ok q.2 := List.forall_mem_cons.mpr ⟨dX5_init_1567, List.forall_mem_cons.mpr ⟨dX5_init_1568, List.forall_mem_cons.mpr ⟨dX5_init_1569, List.forall_mem_cons.mpr ⟨dX5_init_1572, List.forall_mem_cons.mpr ⟨dX5_init_1575, List.forall_mem_cons.mpr ⟨dX5_init_1576, List.forall_mem_cons.mpr ⟨dX5_init_1577, List.forall_mem_cons.mpr ⟨dX5_init_1580, List.forall_mem_cons.mpr ⟨dX5_init_1583, List.forall_mem_cons.mpr ⟨dX5_init_1584, List.forall_mem_cons.mpr ⟨dX5_init_1585, List.forall_mem_cons.mpr ⟨dX5_init_1588, List.forall_mem_cons.mpr ⟨dX5_init_1591, List.forall_mem_cons.mpr ⟨dX5_init_1592, List.forall_mem_cons.mpr ⟨dX5_init_1593, List.forall_mem_cons.mpr ⟨dX5_init_1596, List.forall_mem_cons.mpr ⟨dX5_init_1597, List.forall_mem_cons.mpr ⟨dX5_init_1598, List.forall_mem_cons.mpr ⟨dX5_init_1599, List.forall_mem_cons.mpr ⟨dX5_init_1602, List.forall_mem_cons.mpr ⟨dX5_init_1605, List.forall_mem_cons.mpr ⟨dX5_init_1606, List.forall_mem_cons.mpr ⟨dX5_init_1607, List.forall_mem_cons.mpr ⟨dX5_init_1610, List.forall_mem_cons.mpr ⟨dX5_init_1613, List.forall_mem_cons.mpr ⟨dX5_init_1614, List.forall_mem_cons.mpr ⟨dX5_init_1615, List.forall_mem_cons.mpr ⟨dX5_init_1618, List.forall_mem_cons.mpr ⟨dX5_init_1621, List.forall_mem_cons.mpr ⟨dX5_init_1622, List.forall_mem_cons.mpr ⟨dX5_init_1623, List.forall_mem_cons.mpr ⟨dX5_init_1626, List.forall_mem_cons.mpr ⟨dX5_init_1629, List.forall_mem_cons.mpr ⟨dX5_init_1630, List.forall_mem_cons.mpr ⟨dX5_init_1631, List.forall_mem_cons.mpr ⟨dX5_init_1634, List.forall_mem_cons.mpr ⟨dX5_init_1637, List.forall_mem_cons.mpr ⟨dX5_init_1638, List.forall_mem_cons.mpr ⟨dX5_init_1639, List.forall_mem_cons.mpr ⟨dX5_init_1642, fun _ h => absurd h List.not_mem_nil⟩⟩⟩⟩⟩⟩⟩⟩⟩⟩⟩⟩⟩⟩⟩⟩⟩⟩⟩⟩⟩⟩⟩⟩⟩⟩⟩⟩⟩⟩⟩⟩⟩⟩⟩⟩⟩⟩⟩⟩
def mi_t56_23 : List (Nat × Instr × Nat) := [(1645, .iastore, 1), (1646, .dup, 1), (1647, .sipush 229, 3), (1650, .sipush 1000, 3), (1653, .iastore, 1), (1654, .dup, 1), (1655, .sipush 230, 3), (1658, .sipush 1367, 3), (1661, .iastore, 1), (1662, .dup, 1), (1663, .sipush 231, 3), (1666, .sipush 1000, 3), (1669, .iastore, 1), (1670, .dup, 1), (1671, .sipush 232, 3), (1674, .sipush 2200, 3), (1677, .iastore, 1), (1678, .dup, 1), (1679, .sipush 233, 3), (1682, .sipush 1003, 3), (1685, .iastore, 1), (1686, .dup, 1), (1687, .sipush 234, 3), (1690, .sipush 3202, 3), (1693, .iastore, 1), (1694, .dup, 1), (1695, .sipush 235, 3), (1698, .sipush 1000, 3), (1701, .iastore, 1), (1702, .dup, 1), (1703, .sipush 236, 3), (1706, .sipush 1338, 3), (1709, .iastore, 1), (1710, .dup, 1), (1711, .sipush 237, 3), (1714, .sipush 1000, 3), (1717, .iastore, 1), (1718, .dup, 1), (1719, .sipush 238, 3), (1722, .sipush 1202, 3)]
theorem mi_k56_23 : ∀ q ∈ mi_t56_23, decode cX5_init q.1 = .ok q.2 := List.forall_mem_cons.mpr ⟨dX5_init_1645, List.forall_mem_cons.mpr ⟨dX5_init_1646, List.forall_mem_cons.mpr ⟨dX5_init_1647, List.forall_mem_cons.mpr ⟨dX5_init_1650, List.forall_mem_cons.mpr ⟨dX5_init_1653, List.forall_mem_cons.mpr ⟨dX5_init_1654, List.forall_mem_cons.mpr ⟨dX5_init_1655, List.forall_mem_cons.mpr ⟨dX5_init_1658, List.forall_mem_cons.mpr ⟨dX5_init_1661, List.forall_mem_cons.mpr ⟨dX5_init_1662, List.forall_mem_cons.mpr ⟨dX5_init_1663, List.forall_mem_cons.mpr ⟨dX5_init_1666, List.forall_mem_cons.mpr ⟨dX5_init_1669, List.forall_mem_cons.mpr ⟨dX5_init_1670, List.forall_mem_cons.mpr ⟨dX5_init_1671, List.forall_mem_cons.mpr ⟨dX5_init_1674, List.forall_mem_cons.mpr ⟨dX5_init_1677, List.forall_mem_cons.mpr ⟨dX5_init_1678, List.forall_mem_cons.mpr ⟨dX5_init_1679, List.forall_mem_cons.mpr ⟨dX5_init_1682, List.forall_mem_cons.mpr ⟨dX5_init_1685, List.forall_mem_cons.mpr ⟨dX5_init_1686, List.forall_mem_cons.mpr ⟨dX5_init_1687, List.forall_mem_cons.mpr ⟨dX5_init_1690, List.forall_mem_cons.mpr ⟨dX5_init_1693, List.forall_mem_cons.mpr ⟨dX5_init_1694, List.forall_mem_cons.mpr ⟨dX5_init_1695, List.forall_mem_cons.mpr ⟨dX5_init_1698, List.forall_mem_cons.mpr ⟨dX5_init_1701, List.forall_mem_cons.mpr ⟨dX5_init_1702, List.forall_mem_cons.mpr ⟨dX5_init_1703, List.forall_mem_cons.mpr ⟨dX5_init_1706, List.forall_mem_cons.mpr ⟨dX5_init_1709, List.forall_mem_cons.mpr ⟨dX5_init_1710, List.forall_mem_cons.mpr ⟨dX5_init_1711, List.forall_mem_cons.mpr ⟨dX5_init_1714, List.forall_mem_cons.mpr ⟨dX5_init_1717, List.forall_mem_cons.mpr ⟨dX5_init_1718, List.forall_mem_cons.mpr ⟨dX5_init_1719, List.forall_mem_cons.mpr ⟨dX5_init_1722, fun _ h => absurd h List.not_mem_nil⟩⟩⟩⟩⟩⟩⟩⟩⟩⟩⟩⟩⟩⟩⟩⟩⟩⟩⟩⟩⟩⟩⟩⟩⟩⟩⟩⟩⟩⟩⟩⟩⟩⟩⟩⟩⟩⟩⟩⟩
def mi_t56_24 : List (Nat × Instr × Nat) := [(1725, .iastore, 1), (1726, .dup, 1), (1727, .sipush 239, 3), (1730, .sipush 1003, 3), (1733, .iastore, 1), (1734, .dup, 1), (1735, .sipush 240, 3), (1738, .sipush 3204, 3), (1741, .iastore, 1), (1742, .dup, 1), (1743, .sipush 241, 3), (1746, .sipush 1000, 3), (1749, .iastore, 1), (1750, .dup, 1), (1751, .sipush 242, 3), (1754, .sipush 1205, 3), (1757, .iastore, 1), (1758, .dup, 1), (1759, .sipush 243, 3), (1762, .iconst 1, 1), (1763, .iastore, 1), (1764, .dup, 1), (1765, .sipush 244, 3), (1768, .sipush 1003, 3), (1771, .iastore, 1), (1772, .dup, 1), (1773, .sipush 245, 3), (1776, .sipush 3000, 3), (1779, .iastore, 1), (1780, .putfield 9, 3), (1783, .aload_n 0, 1), (1784, .sipush 210, 3), (1787, .newarray .int, 2), (1789, .putfield 13, 3), (1792, .aload_n 0, 1), (1793, .bipush 21, 2), (1795, .newarray .int, 2), (1797, .putfield 16, 3), (1800, .aload_n 0, 1), (1801, .bipush 21, 2)]
theorem mi_k56_24 : ∀ q ∈ mi_t56_24, decode cX5_init q.1 = .ok q.2 := List.forall_mem_cons.mpr ⟨dX5_init_1725, List.forall_mem_cons.mpr ⟨dX5_init_1726, List.forall_mem_cons.mpr ⟨dX5_init_1727, List.forall_mem_cons.mpr ⟨dX5_init_1730, List.forall_mem_cons.mpr ⟨dX5_init_1733, List.forall_mem_cons.mpr ⟨dX5_init_1734, List.forall_mem_cons.mpr ⟨dX5_init_1735, List.forall_mem_cons.mpr ⟨dX5_init_1738, List.forall_mem_cons.mpr ⟨dX5_init_1741, List.forall_mem_cons.mpr ⟨dX5_init_1742, List.forall_mem_cons.mpr ⟨dX5_init_1743, List.forall_mem_cons.mpr ⟨dX5_init_1746, List.forall_mem_cons.mpr ⟨dX5_init_1749, List.forall_mem_cons.mpr ⟨dX5_init_1750, List.forall_mem_cons.mpr ⟨dX5_init_1751, List.forall_mem_cons.mpr ⟨dX5_init_1754, List.forall_mem_cons.mpr ⟨dX5_init_1757, List.forall_mem_cons.mpr ⟨dX5_init_1758, List.forall_mem_cons.mpr ⟨dX5_init_1759, List.forall_mem_cons.mpr ⟨dX5_init_1762, List.forall_mem_cons.mpr ⟨dX5_init_1763, List.forall_mem_cons.mpr ⟨dX5_init_1764, List.forall_mem_cons.mpr ⟨dX5_init_1765, List.forall_mem_cons.mpr ⟨dX5_init_1768, List.forall_mem_cons.mpr ⟨dX5_init_1771, List.forall_mem_cons.mpr ⟨dX5_init_1772, List.forall_mem_cons.mpr ⟨dX5_init_1773, List.forall_mem_cons.mpr ⟨dX5_init_1776, List.forall_mem_cons.mpr ⟨dX5_init_1779, List.forall_mem_cons.mpr ⟨dX5_init_1780, List.forall_mem_cons.mpr ⟨dX5_init_1783, List.forall_mem_cons.mpr ⟨dX5_init_1784, List.forall_mem_cons.mpr ⟨dX5_init_1787, List.forall_mem_cons.mpr ⟨dX5_init_1789, List.forall_mem_cons.mpr ⟨dX5_init_1792, List.forall_mem_cons.mpr ⟨dX5_init_1793, List.forall_mem_cons.mpr ⟨dX5_init_1795, List.forall_mem_cons.mpr ⟨dX5_init_1797, List.forall_mem_cons.mpr ⟨dX5_init_1800, List.forall_mem_cons.mpr ⟨dX5_init_1801, fun _ h => absurd h List.not_mem_nil⟩⟩⟩⟩⟩⟩⟩⟩⟩⟩⟩⟩⟩⟩⟩⟩⟩⟩⟩⟩⟩⟩⟩⟩⟩⟩⟩⟩⟩⟩⟩⟩⟩⟩⟩⟩⟩⟩⟩⟩
def mi_t56_25 : List (Nat × Instr × Nat) := [(1803, .newarray .int, 2), (1805, .putfield 19, 3), (1808, .aload_n 0, 1), (1809, .sipush 252, 3), (1812, .newarray .int, 2), (1814, .putfield 22, 3), (1817, .aload_n 0, 1), (1818, .sipush 252, 3), (1821, .newarray .int, 2), (1823, .putfield 25, 3), (1826, .aload_n 0, 1), (1827, .bipush 7, 2), (1829, .newarray .int, 2), (1831, .putfield 28, 3), (1834, .aload_n 0, 1), (1835, .bipush 11, 2), (1837, .newarray .int, 2), (1839, .putfield 31, 3), (1842, .aload_n 0, 1), (1843, .sipush 300, 3), (1846, .newarray .int, 2), (1848, .putfield 34, 3), (1851, .aload_n 0, 1), (1852, .sipush 300, 3), (1855, .newarray .int, 2), (1857, .putfield 37, 3), (1860, .aload_n 0, 1), (1861, .sipush 300, 3), (1864, .newarray .int, 2), (1866, .putfield 40, 3), (1869, .aload_n 0, 1), (1870, .sipush 300, 3), (1873, .newarray .int, 2), (1875, .putfield 43, 3), (1878, .aload_n 0, 1), (1879, .sipush 400, 3), (1882, .newarray .int, 2), (1884, .putfield 46, 3), (1887, .aload_n 0, 1), (1888, .sipush 400, 3)]
theorem mi_k56_25 : ∀ q ∈ mi_t56_25, decode cX5_init q.1 = .ok q.2 := List.forall_mem_cons.mpr ⟨dX5_init_1803, List.forall_mem_cons.mpr ⟨dX5_init_1805, List.forall_mem_cons.mpr ⟨dX5_init_1808, List.forall_mem_cons.mpr ⟨dX5_init_1809, List.forall_mem_cons.mpr ⟨dX5_init_1812, List.forall_mem_cons.mpr ⟨dX5_init_1814, List.forall_mem_cons.mpr ⟨dX5_init_1817, List.forall_mem_cons.mpr ⟨dX5_init_1818, List.forall_mem_cons.mpr ⟨dX5_init_1821, List.forall_mem_cons.mpr ⟨dX5_init_1823, List.forall_mem_cons.mpr ⟨dX5_init_1826, List.forall_mem_cons.mpr ⟨dX5_init_1827, List.forall_mem_cons.mpr ⟨dX5_init_1829, List.forall_mem_cons.mpr ⟨dX5_init_1831, List.forall_mem_cons.mpr ⟨dX5_init_1834, List.forall_mem_cons.mpr ⟨dX5_init_1835, List.forall_mem_cons.mpr ⟨dX5_init_1837, List.forall_mem_cons.mpr ⟨dX5_init_1839, List.forall_mem_cons.mpr ⟨dX5_init_1842, List.forall_mem_cons.mpr ⟨dX5_init_1843, List.forall_mem_cons.mpr ⟨dX5_init_1846, List.forall_mem_cons.mpr ⟨dX5_init_1848, List.forall_mem_cons.mpr ⟨dX5_init_1851, List.forall_mem_cons.mpr ⟨dX5_init_1852, List.forall_mem_cons.mpr ⟨dX5_init_1855, List.forall_mem_cons.mpr ⟨dX5_init_1857, List.forall_mem_cons.mpr ⟨dX5_init_1860, List.forall_mem_cons.mpr ⟨dX5_init_1861, List.forall_mem_cons.mpr ⟨dX5_init_1864, List.forall_mem_cons.mpr ⟨dX5_init_1866, List.forall_mem_cons.mpr ⟨dX5_init_1869, List.forall_mem_cons.mpr ⟨dX5_init_1870, List.forall_mem_cons.mpr ⟨dX5_init_1873, List.forall_mem_cons.mpr ⟨dX5_init_1875, List.forall_mem_cons.mpr ⟨dX5_init_1878, List.forall_mem_cons.mpr ⟨dX5_init_1879, List.forall_mem_cons.mpr ⟨dX5_init_1882, List.forall_mem_cons.mpr ⟨dX5_init_1884, List.forall_mem_cons.mpr ⟨dX5_init_1887, List.forall_mem_cons.mpr ⟨dX5_init_1888, fun _ h => absurd h List.not_mem_nil⟩⟩⟩⟩⟩⟩⟩⟩⟩⟩⟩⟩⟩⟩⟩⟩⟩⟩⟩⟩⟩⟩⟩⟩⟩⟩⟩⟩⟩⟩⟩⟩⟩⟩⟩⟩⟩⟩⟩⟩
def mi_t56_26 : List (Nat × Instr × Nat) := [(1891, .newarray .int, 2), (1893, .putfield 49, 3), (1896, .aload_n 0, 1), (1897, .sipush 300, 3), (1900, .newarray .int, 2), (1902, .putfield 52, 3), (1905, .aload_n 0, 1), (1906, .sipush 300, 3), (1909, .newarray .int, 2), (1911, .putfield 55, 3), (1914, .aload_n 0, 1), (1915, .sipush 300, 3), (1918, .newarray .boolean, 2), (1920, .putfield 58, 3), (1923, .aload_n 0, 1), (1924, .bipush 64, 2), (1926, .newarray .int, 2), (1928, .putfield 62, 3), (1931, .aload_n 0, 1), (1932, .bipush 100, 2), (1934, .newarray .int, 2), (1936, .putfield 65, 3), (1939, .aload_n 0, 1), (1940, .bipush 100, 2), (1942, .newarray .int, 2), (1944, .putfield 68, 3), (1947, .aload_n 0, 1), (1948, .bipush 100, 2), (1950, .newarray .int, 2), (1952, .putfield 71, 3), (1955, .aload_n 0, 1), (1956, .sipush 300, 3), (1959, .newarray .int, 2), (1961, .putfield 74, 3), (1964, .iconst 0, 1), (1965, .istore_n 1, 1), (1966, .iload_n 1, 1), (1967, .sipush 252, 3), (1970, .if_icmp .ge 16, 3), (1973, .aload_n 0, 1)]
theorem mi_k56_26 : ∀ q ∈ mi_t56_26, decode cX5_init q.1 = .ok q.2 := List.forall_mem_cons.mpr ⟨dX5_init_1891, List.forall_mem_cons.mpr ⟨dX5_init_1893, List.forall_mem_cons.mpr ⟨dX5_init_1896, List.forall_mem_cons.mpr ⟨dX5_init_1897, List.forall_mem_cons.mpr ⟨dX5_init_1900, List.forall_mem_cons.mpr ⟨dX5_init_1902, List.forall_mem_cons.mpr ⟨dX5_init_1905, List.forall_mem_cons.mpr ⟨dX5_init_1906, List.forall_mem_cons.mpr ⟨dX5_init_1909, List.forall_mem_cons.mpr ⟨dX5_init_1911, List.forall_mem_cons.mpr ⟨dX5_init_1914, List.forall_mem_cons.mpr ⟨dX5_init_1915, List.forall_mem_cons.mpr ⟨dX5_init_1918, List.forall_mem_cons.mpr ⟨dX5_init_1920, List.forall_mem_cons.mpr ⟨dX5_init_1923, List.forall_mem_cons.mpr ⟨dX5_init_1924, List.forall_mem_cons.mpr ⟨dX5_init_1926, List.forall_mem_cons.mpr ⟨dX5_init_1928, List.forall_mem_cons.mpr ⟨dX5_init_1931, List.forall_mem_cons.mpr ⟨dX5_init_1932, List.forall_mem_cons.mpr ⟨dX5_init_1934, List.forall_mem_cons.mpr ⟨dX5_init_1936, List.forall_mem_cons.mpr ⟨dX5_init_1939, List.forall_mem_cons.mpr ⟨dX5_init_1940, List.forall_mem_cons.mpr ⟨dX5_init_1942, List.forall_mem_cons.mpr ⟨dX5_init_1944, List.forall_mem_cons.mpr ⟨dX5_init_1947, List.forall_mem_cons.mpr ⟨dX5_init_1948, List.forall_mem_cons.mpr ⟨dX5_init_1950, List.forall_mem_cons.mpr ⟨dX5_init_1952, List.forall_mem_cons.mpr ⟨dX5_init_1955, List.forall_mem_cons.mpr ⟨dX5_init_1956, List.forall_mem_cons.mpr ⟨dX5_init_1959, List.forall_mem_cons.mpr ⟨dX5_init_1961, List.forall_mem_cons.mpr ⟨dX5_init_1964, List.forall_mem_cons.mpr ⟨dX5_init_1965, List.forall_mem_cons.mpr ⟨dX5_init_1966, List.forall_mem_cons.mpr ⟨dX5_init_1967, List.forall_mem_cons.mpr ⟨dX5_init_1970, List.forall_mem_cons.mpr ⟨dX5_init_1973, fun _ h => absurd h List.not_mem_nil⟩⟩⟩⟩⟩⟩⟩⟩⟩⟩⟩⟩⟩⟩⟩⟩⟩⟩⟩⟩⟩⟩⟩⟩⟩⟩⟩⟩⟩⟩⟩⟩⟩⟩⟩⟩⟩⟩⟩⟩
def mi_t56_27 : List (Nat × Instr × Nat) := [(1974, .getfield 22, 3), (1977, .iload_n 1, 1), (1978, .iconst (-1), 1), (1979, .iastore, 1), (1980, .iinc 1 1, 3), (1983, .goto (-17), 3), (1986, .iconst 0, 1), (1987, .istore_n 1, 1), (1988, .iload_n 1, 1), (1989, .aload_n 0, 1), (1990, .getfield 9, 3), (1993, .arraylength, 1), (1994, .if_icmp .ge 39, 3), (1997, .aload_n 0, 1), (1998, .getfield 9, 3), (2001, .iload_n 1, 1), (2002, .iaload, 1), (2003, .sipush 3000, 3), (2006, .if_icmp .le 21, 3), (2009, .aload_n 0, 1), (2010, .getfield 13, 3), (2013, .aload_n 0, 1), (2014, .getfield 9, 3), (2017, .iload_n 1, 1), (2018, .iaload, 1), (2019, .sipush 3000, 3), (2022, .isub, 1), (2023, .iload_n 1, 1), (2024, .iconst 1, 1), (2025, .iadd, 1), (2026, .iastore, 1), (2027, .iinc 1 1, 3), (2030, .goto (-42), 3), (2033, .aload_n 0, 1), (2034, .iconst 1, 1), (2035, .iconst 1, 1), (2036, .bipush 10, 2), (2038, .invokevirtual 77, 3), (2041, .aload_n 0, 1), (2042, .iconst 1, 1)]
theorem mi_k56_27 : ∀ q ∈ mi_t56_27, decode cX5_init q.1 = .ok q.2 := List.forall_mem_cons.mpr ⟨dX5_init_1974, List.forall_mem_cons.mpr ⟨dX5_init_1977, List.forall_mem_cons.mpr ⟨dX5_init_1978, List.forall_mem_cons.mpr ⟨dX5_init_1979, List.forall_mem_cons.mpr ⟨dX5_init_1980, List.forall_mem_cons.mpr ⟨dX5_init_1983, List.forall_mem_cons.mpr ⟨dX5_init_1986, List.forall_mem_cons.mpr ⟨dX5_init_1987, List.forall_mem_cons.mpr ⟨dX5_init_1988, List.forall_mem_cons.mpr ⟨dX5_init_1989, List.forall_mem_cons.mpr ⟨dX5_init_1990, List.forall_mem_cons.mpr ⟨dX5_init_1993, List.forall_mem_cons.mpr ⟨dX5_init_1994, List.forall_mem_cons.mpr ⟨dX5_init_1997, List.forall_mem_cons.mpr ⟨dX5_init_1998, List.forall_mem_cons.mpr ⟨dX5_init_2001, List.forall_mem_cons.mpr ⟨dX5_init_2002, List.forall_mem_cons.mpr ⟨dX5_init_2003, List.forall_mem_cons.mpr ⟨dX5_init_2006, List.forall_mem_cons.mpr ⟨dX5_init_2009, List.forall_mem_cons.mpr ⟨dX5_init_2010, List.forall_mem_cons.mpr ⟨dX5_init_2013, List.forall_mem_cons.mpr ⟨dX5_init_2014, List.forall_mem_cons.mpr ⟨dX5_init_2017, List.forall_mem_cons.mpr ⟨dX5_init_2018, List.forall_mem_cons.mpr ⟨dX5_init_2019, List.forall_mem_cons.mpr ⟨dX5_init_2022, List.forall_mem_cons.mpr ⟨dX5_init_2023, List.forall_mem_cons.mpr ⟨dX5_init_2024, List.forall_mem_cons.mpr ⟨dX5_init_2025, List.forall_mem_cons.mpr ⟨dX5_init_2026, List.forall_mem_cons.mpr ⟨dX5_init_2027, List.forall_mem_cons.mpr ⟨dX5_init_2030, List.forall_mem_cons.mpr ⟨dX5_init_2033, List.forall_mem_cons.mpr ⟨dX5_init_2034, List.forall_mem_cons.mpr ⟨dX5_init_2035, List.forall_mem_cons.mpr ⟨dX5_init_2036, List.forall_mem_cons.mpr ⟨dX5_init_2038, List.forall_mem_cons.mpr ⟨dX5_init_2041, List.forall_mem_cons.mpr ⟨dX5_init_2042, fun _ h => absurd h List.not_mem_nil⟩⟩⟩⟩⟩⟩⟩⟩⟩⟩⟩⟩⟩⟩⟩⟩⟩⟩⟩⟩⟩⟩⟩⟩⟩⟩⟩⟩⟩⟩⟩⟩⟩⟩⟩⟩⟩⟩⟩⟩
def mi_t56_28 : List (Nat × Instr × Nat) := [(2043, .iconst 2, 1), (2044, .bipush 11, 2), (2046, .invokevirtual 77, 3), (2049, .aload_n 0, 1), (2050, .iconst 2, 1), (2051, .iconst 4, 1), (2052, .bipush 20, 2), (2054, .invokevirtual 77, 3), (2057, .aload_n 0, 1), (2058, .iconst 2, 1), (2059, .iconst 2, 1), (2060, .bipush 21, 2), (2062, .invokevirtual 77, 3), (2065, .aload_n 0, 1), (2066, .iconst 3, 1), (2067, .iconst 2, 1), (2068, .bipush 30, 2), (2070, .invokevirtual 77, 3), (2073, .aload_n 0, 1), (2074, .iconst 4, 1), (2075, .bipush 6, 2), (2077, .bipush 40, 2), (2079, .invokevirtual 77, 3), (2082, .aload_n 0, 1), (2083, .iconst 4, 1), (2084, .bipush 7, 2), (2086, .bipush 41, 2), (2088, .invokevirtual 77, 3), (2091, .aload_n 0, 1), (2092, .iconst 5, 1), (2093, .bipush 7, 2), (2095, .bipush 50, 2), (2097, .invokevirtual 77, 3), (2100, .aload_n 0, 1), (2101, .iconst 5, 1), (2102, .bipush 8, 2), (2104, .bipush 51, 2), (2106, .invokevirtual 77, 3), (2109, .aload_n 0, 1), (2110, .bipush 6, 2)]
theorem mi_k56_28 : ∀ q ∈ mi_t56_28, decode cX5_init q.1 = .ok q.2 := List.forall_mem_cons.mpr ⟨dX5_init_2043, List.forall_mem_cons.mpr ⟨dX5_init_2044, List.forall_mem_cons.mpr ⟨dX5_init_2046, List.forall_mem_cons.mpr ⟨dX5_init_2049, List.forall_mem_cons.mpr ⟨dX5_init_2050, List.forall_mem_cons.mpr ⟨dX5_init_2051, List.forall_mem_cons.mpr ⟨dX5_init_2052, List.forall_mem_cons.mpr ⟨dX5_init_2054, List.forall_mem_cons.mpr ⟨dX5_init_2057, List.forall_mem_cons.mpr ⟨dX5_init_2058, List.forall_mem_cons.mpr ⟨dX5_init_2059, List.forall_mem_cons.mpr ⟨dX5_init_2060, List.forall_mem_cons.mpr ⟨dX5_init_2062, List.forall_mem_cons.mpr ⟨dX5_init_2065, List.forall_mem_cons.mpr ⟨dX5_init_2066, List.forall_mem_cons.mpr ⟨dX5_init_2067, List.forall_mem_cons.mpr ⟨dX5_init_2068, List.forall_mem_cons.mpr ⟨dX5_init_2070, List.forall_mem_cons.mpr ⟨dX5_init_2073, List.forall_mem_cons.mpr ⟨dX5_init_2074, List.forall_mem_cons.mpr ⟨dX5_init_2075, List.forall_mem_cons.mpr ⟨dX5_init_2077, List.forall_mem_cons.mpr ⟨dX5_init_2079, List.forall_mem_cons.mpr ⟨dX5_init_2082, List.forall_mem_cons.mpr ⟨dX5_init_2083, List.forall_mem_cons.mpr ⟨dX5_init_2084, List.forall_mem_cons.mpr ⟨dX5_init_2086, List.forall_mem_cons.mpr ⟨dX5_init_2088, List.forall_mem_cons.mpr ⟨dX5_init_2091, List.forall_mem_cons.mpr ⟨dX5_init_2092, List.forall_mem_cons.mpr ⟨dX5_init_2093, List.forall_mem_cons.mpr ⟨dX5_init_2095, List.forall_mem_cons.mpr ⟨dX5_init_2097, List.forall_mem_cons.mpr ⟨dX5_init_2100, List.forall_mem_cons.mpr ⟨dX5_init_2101, List.forall_mem_cons.mpr ⟨dX5_init_2102, List.forall_mem_cons.mpr ⟨dX5_init_2104, List.forall_mem_cons.mpr ⟨dX5_init_2106, List.forall_mem_cons.mpr ⟨dX5_init_2109, List.forall_mem_cons.mpr ⟨dX5_init_2110, fun _ h => absurd h List.not_mem_nil⟩⟩⟩⟩⟩⟩⟩⟩⟩⟩⟩⟩⟩⟩⟩⟩⟩⟩⟩⟩⟩⟩⟩⟩⟩⟩⟩⟩⟩⟩⟩⟩⟩⟩⟩⟩⟩⟩⟩⟩
def mi_t56_29 : List (Nat × Instr × Nat) := [(2112, .bipush 9, 2), (2114, .bipush 60, 2), (2116, .invokevirtual 77, 3), (2119, .aload_n 0, 1), (2120, .bipush 6, 2), (2122, .bipush 10, 2), (2124, .bipush 61, 2), (2126, .invokevirtual 77, 3), (2129, .aload_n 0, 1), (2130, .bipush 6, 2), (2132, .iconst 3, 1), (2133, .bipush 62, 2), (2135, .invokevirtual 77, 3), (2138, .aload_n 0, 1), (2139, .bipush 6, 2), (2141, .bipush 11, 2), (2143, .bipush 64, 2), (2145, .invokevirtual 77, 3), (2148, .aload_n 0, 1), (2149, .bipush 7, 2), (2151, .iconst 5, 1), (2152, .bipush 70, 2), (2154, .invokevirtual 77, 3), (2157, .aload_n 0, 1), (2158, .bipush 10, 2), (2160, .iconst 0, 1), (2161, .bipush 100, 2), (2163, .invokevirtual 77, 3), (2166, .aload_n 0, 1), (2167, .bipush 10, 2), (2169, .bipush 9, 2), (2171, .bipush 101, 2), (2173, .invokevirtual 77, 3), (2176, .aload_n 0, 1), (2177, .bipush 11, 2), (2179, .bipush 10, 2), (2181, .bipush 110, 2), (2183, .invokevirtual 77, 3), (2186, .aload_n 0, 1), (2187, .bipush 11, 2)]
theorem mi_k56_29 : ∀ q ∈ mi_t56_29, decode cX5_init q.1 = .ok q.2 := List.forall_mem_cons.mpr ⟨dX5_init_2112, List.forall_mem_cons.mpr ⟨dX5_init_2114, List.forall_mem_cons.mpr ⟨dX5_init_2116, List.forall_mem_cons.mpr ⟨dX5_init_2119, List.forall_mem_cons.mpr ⟨dX5_init_2120, List.forall_mem_cons.mpr ⟨dX5_init_2122, List.forall_mem_cons.mpr ⟨dX5_init_2124, List.forall_mem_cons.mpr ⟨dX5_init_2126, List.forall_mem_cons.mpr ⟨dX5_init_2129, List.forall_mem_cons.mpr ⟨dX5_init_2130, List.forall_mem_cons.mpr ⟨dX5_init_2132, List.forall_mem_cons.mpr ⟨dX5_init_2133, List.forall_mem_cons.mpr ⟨dX5_init_2135, List.forall_mem_cons.mpr ⟨dX5_init_2138, List.forall_mem_cons.mpr ⟨dX5_init_2139, List.forall_mem_cons.mpr ⟨dX5_init_2141, List.forall_mem_cons.mpr ⟨dX5_init_2143, List.forall_mem_cons.mpr ⟨dX5_init_2145, List.forall_mem_cons.mpr ⟨dX5_init_2148, List.forall_mem_cons.mpr ⟨dX5_init_2149, List.forall_mem_cons.mpr ⟨dX5_init_2151, List.forall_mem_cons.mpr ⟨dX5_init_2152, List.forall_mem_cons.mpr ⟨dX5_init_2154, List.forall_mem_cons.mpr ⟨dX5_init_2157, List.forall_mem_cons.mpr ⟨dX5_init_2158, List.forall_mem_cons.mpr ⟨dX5_init_2160, List.forall_mem_cons.mpr ⟨dX5_init_2161, List.forall_mem_cons.mpr ⟨dX5_init_2163, List.forall_mem_cons.mpr ⟨dX5_init_2166, List.forall_mem_cons.mpr ⟨dX5_init_2167, List.forall_mem_cons.mpr ⟨dX5_init_2169, List.forall_mem_cons.mpr ⟨dX5_init_2171, List.forall_mem_cons.mpr ⟨dX5_init_2173, List.forall_mem_cons.mpr ⟨dX5_init_2176, List.forall_mem_cons.mpr ⟨dX5_init_2177, List.forall_mem_cons.mpr ⟨dX5_init_2179, List.forall_mem_cons.mpr ⟨dX5_init_2181, List.forall_mem_cons.mpr ⟨dX5_init_2183, List.forall_mem_cons.mpr ⟨dX5_init_2186, List.forall_mem_cons.mpr ⟨dX5_init_2187, fun _ h => absurd h List.not_mem_nil⟩⟩⟩⟩⟩⟩⟩⟩⟩⟩⟩⟩⟩⟩⟩⟩⟩⟩⟩⟩⟩⟩⟩⟩⟩⟩⟩⟩⟩⟩⟩⟩⟩⟩⟩⟩⟩⟩⟩⟩
def mi_t56_30 : List (Nat × Instr × Nat) := [(2189, .iconst 4, 1), (2190, .bipush 111, 2), (2192, .invokevirtual 77, 3), (2195, .aload_n 0, 1), (2196, .bipush 12, 2), (2198, .bipush 6, 2), (2200, .bipush 120, 2), (2202, .invokevirtual 77, 3), (2205, .aload_n 0, 1), (2206, .bipush 13, 2), (2208, .iconst 0, 1), (2209, .sipush 130, 3), (2212, .invokevirtual 77, 3), (2215, .aload_n 0, 1), (2216, .bipush 13, 2), (2218, .iconst 1, 1), (2219, .sipush 131, 3), (2222, .invokevirtual 77, 3), (2225, .aload_n 0, 1), (2226, .bipush 14, 2), (2228, .iconst 0, 1), (2229, .sipush 140, 3), (2232, .invokevirtual 77, 3), (2235, .aload_n 0, 1), (2236, .bipush 14, 2), (2238, .iconst 2, 1), (2239, .sipush 141, 3), (2242, .invokevirtual 77, 3), (2245, .aload_n 0, 1), (2246, .bipush 14, 2), (2248, .bipush 10, 2), (2250, .sipush 142, 3), (2253, .invokevirtual 77, 3), (2256, .aload_n 0, 1), (2257, .bipush 15, 2), (2259, .iconst 0, 1), (2260, .sipush 150, 3), (2263, .invokevirtual 77, 3), (2266, .aload_n 0, 1), (2267, .bipush 15, 2)]
theorem mi_k56_30 : ∀ q ∈ mi_t56_30, decode cX5_init q.1 = .ok q.2 := List.forall_mem_cons.mpr ⟨dX5_init_2189, List.forall_mem_cons.mpr ⟨dX5_init_2190, List.forall_mem_cons.mpr ⟨dX5_init_2192, List.forall_mem_cons.mpr ⟨dX5_init_2195, List.forall_mem_cons.mpr ⟨dX5_init_2196, List.forall_mem_cons.mpr ⟨dX5_init_2198, List.forall_mem_cons.mpr ⟨dX5_init_2200, List.forall_mem_cons.mpr ⟨dX5_init_2202, List.forall_mem_cons.mpr ⟨dX5_init_2205, List.forall_mem_cons.mpr ⟨dX5_init_2206, List.forall_mem_cons.mpr ⟨dX5_init_2208, List.forall_mem_cons.mpr ⟨dX5_init_2209, List.forall_mem_cons.mpr ⟨dX5_init_2212, List.forall_mem_cons.mpr ⟨dX5_init_2215, List.forall_mem_cons.mpr ⟨dX5_init_2216, List.forall_mem_cons.mpr ⟨dX5_init_2218, List.forall_mem_cons.mpr ⟨dX5_init_2219, List.forall_mem_cons.mpr ⟨dX5_init_2222, List.forall_mem_cons.mpr ⟨dX5_init_2225, List.forall_mem_cons.mpr ⟨dX5_init_2226, List.forall_mem_cons.mpr ⟨dX5_init_2228, List.forall_mem_cons.mpr ⟨dX5_init_2229, List.forall_mem_cons.mpr ⟨dX5_init_2232, List.forall_mem_cons.mpr ⟨dX5_init_2235, List.forall_mem_cons.mpr ⟨dX5_init_2236, List.forall_mem_cons.mpr ⟨dX5_init_2238, List.forall_mem_cons.mpr ⟨dX5_init_2239, List.forall_mem_cons.mpr ⟨dX5_init_2242, List.forall_mem_cons.mpr ⟨dX5_init_2245, List.forall_mem_cons.mpr ⟨dX5_init_2246, List.forall_mem_cons.mpr ⟨dX5_init_2248, List.forall_mem_cons.mpr ⟨dX5_init_2250, List.forall_mem_cons.mpr ⟨dX5_init_2253, List.forall_mem_cons.mpr ⟨dX5_init_2256, List.forall_mem_cons.mpr ⟨dX5_init_2257, List.forall_mem_cons.mpr ⟨dX5_init_2259, List.forall_mem_cons.mpr ⟨dX5_init_2260, List.forall_mem_cons.mpr ⟨dX5_init_2263, List.forall_mem_cons.mpr ⟨dX5_init_2266, List.forall_mem_cons.mpr ⟨dX5_init_2267, fun _ h => absurd h List.not_mem_nil⟩⟩⟩⟩⟩⟩⟩⟩⟩⟩⟩⟩⟩⟩⟩⟩⟩⟩⟩⟩⟩⟩⟩⟩⟩⟩⟩⟩⟩⟩⟩⟩⟩⟩⟩⟩⟩⟩⟩⟩
def mi_t56_31 : List (Nat × Instr × Nat) := [(2269, .bipush 9, 2), (2271, .sipush 151, 3), (2274, .invokevirtual 77, 3), (2277, .aload_n 0, 1), (2278, .bipush 15, 2), (2280, .iconst 4, 1), (2281, .sipush 152, 3), (2284, .invokevirtual 77, 3), (2287, .aload_n 0, 1), (2288, .bipush 16, 2), (2290, .iconst 5, 1), (2291, .sipush 160, 3), (2294, .invokevirtual 77, 3), (2297, .aload_n 0, 1), (2298, .bipush 16, 2), (2300, .bipush 8, 2), (2302, .sipush 161, 3), (2305, .invokevirtual 77, 3), (2308, .aload_n 0, 1), (2309, .bipush 16, 2), (2311, .bipush 9, 2), (2313, .sipush 163, 3), (2316, .invokevirtual 77, 3), (2319, .aload_n 0, 1), (2320, .bipush 18, 2), (2322, .bipush 9, 2), (2324, .sipush 180, 3), (2327, .invokevirtual 77, 3), (2330, .aload_n 0, 1), (2331, .bipush 18, 2), (2333, .iconst 2, 1), (2334, .sipush 181, 3), (2337, .invokevirtual 77, 3), (2340, .aload_n 0, 1), (2341, .bipush 19, 2), (2343, .iconst 0, 1), (2344, .sipush 190, 3), (2347, .invokevirtual 77, 3), (2350, .aload_n 0, 1), (2351, .bipush 20, 2)]
theorem mi_k56_31 : ∀ q ∈ mi_t56_31, decode cX5_init q.1 = .ok q.2 := List.forall_mem_cons.mpr ⟨dX5_init_2269, List.forall_mem_cons.mpr ⟨dX5_init_2271, List.forall_mem_cons.mpr ⟨dX5_init_2274, List.forall_mem_cons.mpr ⟨dX5_init_2277, List.forall_mem_cons.mpr ⟨dX5_init_2278, List.forall_mem_cons.mpr ⟨dX5_init_2280, List.forall_mem_cons.mpr ⟨dX5_init_2281, List.forall_mem_cons.mpr ⟨dX5_init_2284, List.forall_mem_cons.mpr ⟨dX5_init_2287, List.forall_mem_cons.mpr ⟨dX5_init_2288, List.forall_mem_cons.mpr ⟨dX5_init_2290, List.forall_mem_cons.mpr ⟨dX5_init_2291, List.forall_mem_cons.mpr ⟨dX5_init_2294, List.forall_mem_cons.mpr ⟨dX5_init_2297, List.forall_mem_cons.mpr ⟨dX5_init_2298, List.forall_mem_cons.mpr ⟨dX5_init_2300, List.forall_mem_cons.mpr ⟨dX5_init_2302, List.forall_mem_cons.mpr ⟨dX5_init_2305, List.forall_mem_cons.mpr ⟨dX5_init_2308, List.forall_mem_cons.mpr ⟨dX5_init_2309, List.forall_mem_cons.mpr ⟨dX5_init_2311, List.forall_mem_cons.mpr ⟨dX5_init_2313, List.forall_mem_cons.mpr ⟨dX5_init_2316, List.forall_mem_cons.mpr ⟨dX5_init_2319, List.forall_mem_cons.mpr ⟨dX5_init_2320, List.forall_mem_cons.mpr ⟨dX5_init_2322, List.forall_mem_cons.mpr ⟨dX5_init_2324, List.forall_mem_cons.mpr ⟨dX5_init_2327, List.forall_mem_cons.mpr ⟨dX5_init_2330, List.forall_mem_cons.mpr ⟨dX5_init_2331, List.forall_mem_cons.mpr ⟨dX5_init_2333, List.forall_mem_cons.mpr ⟨dX5_init_2334, List.forall_mem_cons.mpr ⟨dX5_init_2337, List.forall_mem_cons.mpr ⟨dX5_init_2340, List.forall_mem_cons.mpr ⟨dX5_init_2341, List.forall_mem_cons.mpr ⟨dX5_init_2343, List.forall_mem_cons.mpr ⟨dX5_init_2344, List.forall_mem_cons.mpr ⟨dX5_init_2347, List.forall_mem_cons.mpr ⟨dX5_init_2350, List.forall_mem_cons.mpr ⟨dX5_init_2351, fun _ h => absurd h List.not_mem_nil⟩⟩⟩⟩⟩⟩⟩⟩⟩⟩⟩⟩⟩⟩⟩⟩⟩⟩⟩⟩⟩⟩⟩⟩⟩⟩⟩⟩⟩⟩⟩⟩⟩⟩⟩⟩⟩⟩⟩⟩
def mi_t56_32 : List (Nat × Instr × Nat) := [(2353, .bipush 7, 2), (2355, .sipush 201, 3), (2358, .invokevirtual 77, 3), (2361, .aload_n 0, 1), (2362, .bipush 20, 2), (2364, .iconst 2, 1), (2365, .sipush 202, 3), (2368, .invokevirtual 77, 3), (2371, .aload_n 0, 1), (2372, .bipush 20, 2), (2374, .iconst 5, 1), (2375, .sipush 204, 3), (2378, .invokevirtual 77, 3), (2381, .aload_n 0, 1), (2382, .getfield 16, 3), (2385, .bipush 6, 2), (2387, .iconst (-1), 1), (2388, .iastore, 1), (2389, .aload_n 0, 1), (2390, .bipush 7, 2), (2392, .bipush 6, 2), (2394, .iconst 0, 1), (2395, .invokevirtual 81, 3), (2398, .aload_n 0, 1), (2399, .bipush 10, 2), (2401, .bipush 7, 2), (2403, .iconst 1, 1), (2404, .invokestatic 84, 3), (2407, .invokevirtual 81, 3), (2410, .aload_n 0, 1), (2411, .bipush 11, 2), (2413, .bipush 7, 2), (2415, .iconst 2, 1), (2416, .invokestatic 84, 3), (2419, .invokevirtual 81, 3), (2422, .aload_n 0, 1), (2423, .bipush 12, 2), (2425, .bipush 7, 2), (2427, .iconst 4, 1), (2428, .invokestatic 84, 3)]
theorem mi_k56_32 : ∀ q ∈ mi_t56_32, decode cX5_init q.1 = .ok q.2 := List.forall_mem_cons.mpr ⟨dX5_init_2353, List.forall_mem_cons.mpr ⟨dX5_init_2355, List.forall_mem_cons.mpr ⟨dX5_init_2358, List.forall_mem_cons.mpr ⟨dX5_init_2361, List.forall_mem_cons.mpr ⟨dX5_init_2362, List.forall_mem_cons.mpr ⟨dX5_init_2364, List.forall_mem_cons.mpr ⟨dX5_init_2365, List.forall_mem_cons.mpr ⟨dX5_init_2368, List.forall_mem_cons.mpr ⟨dX5_init_2371, List.forall_mem_cons.mpr ⟨dX5_init_2372, List.forall_mem_cons.mpr ⟨dX5_init_2374, List.forall_mem_cons.mpr ⟨dX5_init_2375, List.forall_mem_cons.mpr ⟨dX5_init_2378, List.forall_mem_cons.mpr ⟨dX5_init_2381, List.forall_mem_cons.mpr ⟨dX5_init_2382, List.forall_mem_cons.mpr ⟨dX5_init_2385, List.forall_mem_cons.mpr ⟨dX5_init_2387, List.forall_mem_cons.mpr ⟨dX5_init_2388, List.forall_mem_cons.mpr ⟨dX5_init_2389, List.forall_mem_cons.mpr ⟨dX5_init_2390, List.forall_mem_cons.mpr ⟨dX5_init_2392, List.forall_mem_cons.mpr ⟨dX5_init_2394, List.forall_mem_cons.mpr ⟨dX5_init_2395, List.forall_mem_cons.mpr ⟨dX5_init_2398, List.forall_mem_cons.mpr ⟨dX5_init_2399, List.forall_mem_cons.mpr ⟨dX5_init_2401, List.forall_mem_cons.mpr ⟨dX5_init_2403, List.forall_mem_cons.mpr ⟨dX5_init_2404, List.forall_mem_cons.mpr ⟨dX5_init_2407, List.forall_mem_cons.mpr ⟨dX5_init_2410, List.forall_mem_cons.mpr ⟨dX5_init_2411, List.forall_mem_cons.mpr ⟨dX5_init_2413, List.forall_mem_cons.mpr ⟨dX5_init_2415, List.forall_mem_cons.mpr ⟨dX5_init_2416, List.forall_mem_cons.mpr ⟨dX5_init_2419, List.forall_mem_cons.mpr ⟨dX5_init_2422, List.forall_mem_cons.mpr ⟨dX5_init_2423, List.forall_mem_cons.mpr ⟨dX5_init_2425, List.forall_mem_cons.mpr ⟨dX5_init_2427, List.forall_mem_cons.mpr ⟨dX5_init_2428, fun _ h => absurd h List.not_mem_nil⟩⟩⟩⟩⟩⟩⟩⟩⟩⟩⟩⟩⟩⟩⟩⟩⟩⟩⟩⟩⟩⟩⟩⟩⟩⟩⟩⟩⟩⟩⟩⟩⟩⟩⟩⟩⟩⟩⟩⟩
def mi_t56_33 : List (Nat × Instr × Nat) := [(2431, .invokevirtual 81, 3), (2434, .aload_n 0, 1), (2435, .bipush 13, 2), (2437, .bipush 10, 2), (2439, .iconst 0, 1), (2440, .invokevirtual 81, 3), (2443, .aload_n 0, 1), (2444, .bipush 14, 2), (2446, .bipush 11, 2), (2448, .iconst 1, 1), (2449, .invokestatic 84, 3), (2452, .invokevirtual 81, 3), (2455, .aload_n 0, 1), (2456, .bipush 15, 2), (2458, .bipush 12, 2), (2460, .iconst 3, 1), (2461, .invokestatic 84, 3), (2464, .invokevirtual 81, 3), (2467, .aload_n 0, 1), (2468, .bipush 16, 2), (2470, .bipush 7, 2), (2472, .iconst 5, 1), (2473, .invokestatic 84, 3), (2476, .invokevirtual 81, 3), (2479, .aload_n 0, 1), (2480, .bipush 17, 2), (2482, .bipush 12, 2), (2484, .iconst 5, 1), (2485, .invokestatic 84, 3), (2488, .invokevirtual 81, 3), (2491, .aload_n 0, 1), (2492, .bipush 18, 2), (2494, .bipush 13, 2), (2496, .iconst 0, 1), (2497, .invokevirtual 81, 3), (2500, .aload_n 0, 1), (2501, .bipush 19, 2), (2503, .bipush 11, 2), (2505, .iconst 3, 1), (2506, .invokestatic 84, 3)]
theorem mi_k56_33 : ∀ q ∈ mi_t56_33, decode cX5_init q.1 = .ok q.2 := List.forall_mem_cons.mpr ⟨dX5_init_2431, List.forall_mem_cons.mpr ⟨dX5_init_2434, List.forall_mem_cons.mpr ⟨dX5_init_2435, List.forall_mem_cons.mpr ⟨dX5_init_2437, List.forall_mem_cons.mpr ⟨dX5_init_2439, List.forall_mem_cons.mpr ⟨dX5_init_2440, List.forall_mem_cons.mpr ⟨dX5_init_2443, List.forall_mem_cons.mpr ⟨dX5_init_2444, List.forall_mem_cons.mpr ⟨dX5_init_2446, List.forall_mem_cons.mpr ⟨dX5_init_2448, List.forall_mem_cons.mpr ⟨dX5_init_2449, List.forall_mem_cons.mpr ⟨dX5_init_2452, List.forall_mem_cons.mpr ⟨dX5_init_2455, List.forall_mem_cons.mpr ⟨dX5_init_2456, List.forall_mem_cons.mpr ⟨dX5_init_2458, List.forall_mem_cons.mpr ⟨dX5_init_2460, List.forall_mem_cons.mpr ⟨dX5_init_2461, List.forall_mem_cons.mpr ⟨dX5_init_2464, List.forall_mem_cons.mpr ⟨dX5_init_2467, List.forall_mem_cons.mpr ⟨dX5_init_2468, List.forall_mem_cons.mpr ⟨dX5_init_2470, List.forall_mem_cons.mpr ⟨dX5_init_2472, List.forall_mem_cons.mpr ⟨dX5_init_2473, List.forall_mem_cons.mpr ⟨dX5_init_2476, List.forall_mem_cons.mpr ⟨dX5_init_2479, List.forall_mem_cons.mpr ⟨dX5_init_2480, List.forall_mem_cons.mpr ⟨dX5_init_2482, List.forall_mem_cons.mpr ⟨dX5_init_2484, List.forall_mem_cons.mpr ⟨dX5_init_2485, List.forall_mem_cons.mpr ⟨dX5_init_2488, List.forall_mem_cons.mpr ⟨dX5_init_2491, List.forall_mem_cons.mpr ⟨dX5_init_2492, List.forall_mem_cons.mpr ⟨dX5_init_2494, List.forall_mem_cons.mpr ⟨dX5_init_2496, List.forall_mem_cons.mpr ⟨dX5_init_2497, List.forall_mem_cons.mpr ⟨dX5_init_2500, List.forall_mem_cons.mpr ⟨dX5_init_2501, List.forall_mem_cons.mpr ⟨dX5_init_2503, List.forall_mem_cons.mpr ⟨dX5_init_2505, List.forall_mem_cons.mpr ⟨dX5_init_2506, fun _ h => absurd h List.not_mem_nil⟩⟩⟩⟩⟩⟩⟩⟩⟩⟩⟩⟩⟩⟩⟩⟩⟩⟩⟩⟩⟩⟩⟩⟩⟩⟩⟩⟩⟩⟩⟩⟩⟩⟩⟩⟩⟩⟩⟩⟩
def mi_t56_34 : List (Nat × Instr × Nat) := [(2509, .invokevirtual 81, 3), (2512, .aload_n 0, 1), (2513, .bipush 20, 2), (2515, .bipush 14, 2), (2517, .iconst 5, 1), (2518, .invokestatic 84, 3), (2521, .iconst 3, 1), (2522, .invokestatic 84, 3), (2525, .ior, 1), (2526, .invokevirtual 81, 3), (2529, .iconst 1, 1), (2530, .istore_n 1, 1), (2531, .iload_n 1, 1), (2532, .bipush 21, 2), (2534, .if_icmp .ge 60, 3), (2537, .iconst 0, 1), (2538, .istore_n 2, 1), (2539, .iload_n 2, 1), (2540, .bipush 12, 2), (2542, .if_icmp .ge 46, 3), (2545, .aload_n 0, 1), (2546, .getfield 25, 3), (2549, .iload_n 1, 1), (2550, .bipush 12, 2), (2552, .imul, 1), (2553, .iload_n 2, 1), (2554, .iadd, 1), (2555, .iload_n 1, 1), (2556, .iconst 5, 1), (2557, .if_icmp .gt 18, 3), (2560, .aload_n 0, 1), (2561, .iload_n 1, 1), (2562, .invokestatic 84, 3), (2565, .invokestatic 88, 3), (2568, .iload_n 2, 1), (2569, .invokevirtual 91, 3), (2572, .goto 9, 3), (2575, .aload_n 0, 1), (2576, .iload_n 1, 1), (2577, .iload_n 2, 1)]
theorem mi_k56_34 : ∀ q ∈ mi_t56_34, decode cX5_init q.1 = .ok q.2 := List.forall_mem_cons.mpr ⟨dX5_init_2509, List.forall_mem_cons.mpr ⟨dX5_init_2512, List.forall_mem_cons.mpr ⟨dX5_init_2513, List.forall_mem_cons.mpr ⟨dX5_init_2515, List.forall_mem_cons.mpr ⟨dX5_init_2517, List.forall_mem_cons.mpr ⟨dX5_init_2518, List.forall_mem_cons.mpr ⟨dX5_init_2521, List.forall_mem_cons.mpr ⟨dX5_init_2522, List.forall_mem_cons.mpr ⟨dX5_init_2525, List.forall_mem_cons.mpr ⟨dX5_init_2526, List.forall_mem_cons.mpr ⟨dX5_init_2529, List.forall_mem_cons.mpr ⟨dX5_init_2530, List.forall_mem_cons.mpr ⟨dX5_init_2531, List.forall_mem_cons.mpr ⟨dX5_init_2532, List.forall_mem_cons.mpr ⟨dX5_init_2534, List.forall_mem_cons.mpr ⟨dX5_init_2537, List.forall_mem_cons.mpr ⟨dX5_init_2538, List.forall_mem_cons.mpr ⟨dX5_init_2539, List.forall_mem_cons.mpr ⟨dX5_init_2540, List.forall_mem_cons.mpr ⟨dX5_init_2542, List.forall_mem_cons.mpr ⟨dX5_init_2545, List.forall_mem_cons.mpr ⟨dX5_init_2546, List.forall_mem_cons.mpr ⟨dX5_init_2549, List.forall_mem_cons.mpr ⟨dX5_init_2550, List.forall_mem_cons.mpr ⟨dX5_init_2552, List.forall_mem_cons.mpr ⟨dX5_init_2553, List.forall_mem_cons.mpr ⟨dX5_init_2554, List.forall_mem_cons.mpr ⟨dX5_init_2555, List.forall_mem_cons.mpr ⟨dX5_init_2556, List.forall_mem_cons.mpr ⟨dX5_init_2557, List.forall_mem_cons.mpr ⟨dX5_init_2560, List.forall_mem_cons.mpr ⟨dX5_init_2561, List.forall_mem_cons.mpr ⟨dX5_init_2562, List.forall_mem_cons.mpr ⟨dX5_init_2565, List.forall_mem_cons.mpr ⟨dX5_init_2568, List.forall_mem_cons.mpr ⟨dX5_init_2569, List.forall_mem_cons.mpr ⟨dX5_init_2572, List.forall_mem_cons.mpr ⟨dX5_init_2575, List.forall_mem_cons.mpr ⟨dX5_init_2576, List.forall_mem_cons.mpr ⟨dX5_init_2577, fun _ h => absurd h List.not_mem_nil⟩⟩⟩⟩⟩⟩⟩⟩⟩⟩⟩⟩⟩⟩⟩⟩⟩⟩⟩⟩⟩⟩⟩⟩⟩⟩⟩⟩⟩⟩⟩⟩⟩⟩⟩⟩⟩⟩⟩⟩
def mi_t56_35 : List (Nat × Instr × Nat) := [(2578, .invokevirtual 95, 3), (2581, .iastore, 1), (2582, .iinc 2 1, 3), (2585, .goto (-46), 3), (2588, .iinc 1 1, 3), (2591, .goto (-60), 3), (2594, .aload_n 0, 1), (2595, .getfield 28, 3), (2598, .iconst 1, 1), (2599, .iconst 3, 1), (2600, .invokestatic 84, 3), (2603, .iconst 5, 1), (2604, .invokestatic 84, 3), (2607, .ior, 1), (2608, .bipush 9, 2), (2610, .invokestatic 84, 3), (2613, .ior, 1), (2614, .bipush 10, 2), (2616, .invokestatic 84, 3), (2619, .ior, 1), (2620, .bipush 11, 2), (2622, .invokestatic 84, 3), (2625, .ior, 1), (2626, .iastore, 1), (2627, .aload_n 0, 1), (2628, .getfield 28, 3), (2631, .iconst 2, 1), (2632, .iconst 0, 1), (2633, .invokestatic 84, 3), (2636, .iconst 1, 1), (2637, .invokestatic 84, 3), (2640, .ior, 1), (2641, .iconst 2, 1), (2642, .invokestatic 84, 3), (2645, .ior, 1), (2646, .iastore, 1), (2647, .aload_n 0, 1), (2648, .getfield 28, 3), (2651, .iconst 3, 1), (2652, .iconst 3, 1)]
theorem mi_k56_35 : ∀ q ∈ mi_t56_35, decode cX5_init q.1 = .ok q.2 := List.forall_mem_cons.mpr ⟨dX5_init_2578, List.forall_mem_cons.mpr ⟨dX5_init_2581, List.forall_mem_cons.mpr ⟨dX5_init_2582, List.forall_mem_cons.mpr ⟨dX5_init_2585, List.forall_mem_cons.mpr ⟨dX5_init_2588, List.forall_mem_cons.mpr ⟨dX5_init_2591, List.forall_mem_cons.mpr ⟨dX5_init_2594, List.forall_mem_cons.mpr ⟨dX5_init_2595, List.forall_mem_cons.mpr ⟨dX5_init_2598, List.forall_mem_cons.mpr ⟨dX5_init_2599, List.forall_mem_cons.mpr ⟨dX5_init_2600, List.forall_mem_cons.mpr ⟨dX5_init_2603, List.forall_mem_cons.mpr ⟨dX5_init_2604, List.forall_mem_cons.mpr ⟨dX5_init_2607, List.forall_mem_cons.mpr ⟨dX5_init_2608, List.forall_mem_cons.mpr ⟨dX5_init_2610, List.forall_mem_cons.mpr ⟨dX5_init_2613, List.forall_mem_cons.mpr ⟨dX5_init_2614, List.forall_mem_cons.mpr ⟨dX5_init_2616, List.forall_mem_cons.mpr ⟨dX5_init_2619, List.forall_mem_cons.mpr ⟨dX5_init_2620, List.forall_mem_cons.mpr ⟨dX5_init_2622, List.forall_mem_cons.mpr ⟨dX5_init_2625, List.forall_mem_cons.mpr ⟨dX5_init_2626, List.forall_mem_cons.mpr ⟨dX5_init_2627, List.forall_mem_cons.mpr ⟨dX5_init_2628, List.forall_mem_cons.mpr ⟨dX5_init_2631, List.forall_mem_cons.mpr ⟨dX5_init_2632, List.forall_mem_cons.mpr ⟨dX5_init_2633, List.forall_mem_cons.mpr ⟨dX5_init_2636, List.forall_mem_cons.mpr ⟨dX5_init_2637, List.forall_mem_cons.mpr ⟨dX5_init_2640, List.forall_mem_cons.mpr ⟨dX5_init_2641, List.forall_mem_cons.mpr ⟨dX5_init_2642, List.forall_mem_cons.mpr ⟨dX5_init_2645, List.forall_mem_cons.mpr ⟨dX5_init_2646, List.forall_mem_cons.mpr ⟨dX5_init_2647, List.forall_mem_cons.mpr ⟨dX5_init_2648, List.forall_mem_cons.mpr ⟨dX5_init_2651, List.forall_mem_cons.mpr ⟨dX5_init_2652, fun _ h => absurd h List.not_mem_nil⟩⟩⟩⟩⟩⟩⟩⟩⟩⟩⟩⟩⟩⟩⟩⟩⟩⟩⟩⟩⟩⟩⟩⟩⟩⟩⟩⟩⟩⟩⟩⟩⟩⟩⟩⟩⟩⟩⟩⟩
def mi_t56_36 : List (Nat × Instr × Nat) := [(2653, .invokestatic 84, 3), (2656, .iconst 4, 1), (2657, .invokestatic 84, 3), (2660, .ior, 1), (2661, .iconst 2, 1), (2662, .invokestatic 84, 3), (2665, .ior, 1), (2666, .iastore, 1), (2667, .aload_n 0, 1), (2668, .getfield 28, 3), (2671, .iconst 4, 1), (2672, .aload_n 0, 1), (2673, .getfield 28, 3), (2676, .iconst 2, 1), (2677, .iaload, 1), (2678, .aload_n 0, 1), (2679, .getfield 28, 3), (2682, .iconst 3, 1), (2683, .iaload, 1), (2684, .ior, 1), (2685, .iastore, 1), (2686, .aload_n 0, 1), (2687, .getfield 28, 3), (2690, .iconst 5, 1), (2691, .iconst 5, 1), (2692, .invokestatic 84, 3), (2695, .bipush 6, 2), (2697, .invokestatic 84, 3), (2700, .ior, 1), (2701, .bipush 7, 2), (2703, .invokestatic 84, 3), (2706, .ior, 1), (2707, .iastore, 1), (2708, .aload_n 0, 1), (2709, .getfield 28, 3), (2712, .bipush 6, 2), (2714, .aload_n 0, 1), (2715, .getfield 28, 3), (2718, .iconst 5, 1), (2719, .iaload, 1)]
theorem mi_k56_36 : ∀ q ∈ mi_t56_36, decode cX5_init q.1 = .ok q.2 := List.forall_mem_cons.mpr ⟨dX5_init_2653, List.forall_mem_cons.mpr ⟨dX5_init_2656, List.forall_mem_cons.mpr ⟨dX5_init_2657, List.forall_mem_cons.mpr ⟨dX5_init_2660, List.forall_mem_cons.mpr ⟨dX5_init_2661, List.forall_mem_cons.mpr ⟨dX5_init_2662, List.forall_mem_cons.mpr ⟨dX5_init_2665, List.forall_mem_cons.mpr ⟨dX5_init_2666, List.forall_mem_cons.mpr ⟨dX5_init_2667, List.forall_mem_cons.mpr ⟨dX5_init_2668, List.forall_mem_cons.mpr ⟨dX5_init_2671, List.forall_mem_cons.mpr ⟨dX5_init_2672, List.forall_mem_cons.mpr ⟨dX5_init_2673, List.forall_mem_cons.mpr ⟨dX5_init_2676, List.forall_mem_cons.mpr ⟨dX5_init_2677, List.forall_mem_cons.mpr ⟨dX5_init_2678, List.forall_mem_cons.mpr ⟨dX5_init_2679, List.forall_mem_cons.mpr ⟨dX5_init_2682, List.forall_mem_cons.mpr ⟨dX5_init_2683, List.forall_mem_cons.mpr ⟨dX5_init_2684, List.forall_mem_cons.mpr ⟨dX5_init_2685, List.forall_mem_cons.mpr ⟨dX5_init_2686, List.forall_mem_cons.mpr ⟨dX5_init_2687, List.forall_mem_cons.mpr ⟨dX5_init_2690, List.forall_mem_cons.mpr ⟨dX5_init_2691, List.forall_mem_cons.mpr ⟨dX5_init_2692, List.forall_mem_cons.mpr ⟨dX5_init_2695, List.forall_mem_cons.mpr ⟨dX5_init_2697, List.forall_mem_cons.mpr ⟨dX5_init_2700, List.forall_mem_cons.mpr ⟨dX5_init_2701, List.forall_mem_cons.mpr ⟨dX5_init_2703, List.forall_mem_cons.mpr ⟨dX5_init_2706, List.forall_mem_cons.mpr ⟨dX5_init_2707, List.forall_mem_cons.mpr ⟨dX5_init_2708, List.forall_mem_cons.mpr ⟨dX5_init_2709, List.forall_mem_cons.mpr ⟨dX5_init_2712, List.forall_mem_cons.mpr ⟨dX5_init_2714, List.forall_mem_cons.mpr ⟨dX5_init_2715, List.forall_mem_cons.mpr ⟨dX5_init_2718, List.forall_mem_cons.mpr ⟨dX5_init_2719, fun _ h => absurd h List.not_mem_nil⟩⟩⟩⟩⟩⟩⟩⟩⟩⟩⟩⟩⟩⟩⟩⟩⟩⟩⟩⟩⟩⟩⟩⟩⟩⟩⟩⟩⟩⟩⟩⟩⟩⟩⟩⟩⟩⟩⟩⟩
def mi_t56_37 : List (Nat × Instr × Nat) := [(2720, .bipush 8, 2), (2722, .invokestatic 84, 3), (2725, .ior, 1), (2726, .iastore, 1), (2727, .iconst 0, 1), (2728, .istore_n 1, 1), (2729, .iload_n 1, 1), (2730, .bipush 11, 2), (2732, .if_icmp .ge 68, 3), (2735, .aload_n 0, 1), (2736, .getfield 31, 3), (2739, .iload_n 1, 1), (2740, .aload_n 0, 1), (2741, .getfield 28, 3), (2744, .iconst 1, 1), (2745, .iaload, 1), (2746, .iastore, 1), (2747, .iconst 1, 1), (2748, .istore_n 2, 1), (2749, .iload_n 2, 1), (2750, .iconst 5, 1), (2751, .if_icmp .gt 43, 3), (2754, .aload_n 0, 1), (2755, .getfield 19, 3), (2758, .bipush 10, 2), (2760, .iload_n 1, 1), (2761, .iadd, 1), (2762, .iaload, 1), (2763, .iload_n 2, 1), (2764, .invokestatic 84, 3), (2767, .iand, 1), (2768, .ifCond .eq 20, 3), (2771, .aload_n 0, 1), (2772, .getfield 31, 3), (2775, .iload_n 1, 1), (2776, .dup2, 1), (2777, .iaload, 1), (2778, .aload_n 0, 1), (2779, .getfield 28, 3), (2782, .iconst 1, 1)]
theorem mi_k56_37 : ∀ q ∈ mi_t56_37, decode cX5_init q.1 = .ok q.2 := List.forall_mem_cons.mpr ⟨dX5_init_2720, List.forall_mem_cons.mpr ⟨dX5_init_2722, List.forall_mem_cons.mpr ⟨dX5_init_2725, List.forall_mem_cons.mpr ⟨dX5_init_2726, List.forall_mem_cons.mpr ⟨dX5_init_2727, List.forall_mem_cons.mpr ⟨dX5_init_2728, List.forall_mem_cons.mpr ⟨dX5_init_2729, List.forall_mem_cons.mpr ⟨dX5_init_2730, List.forall_mem_cons.mpr ⟨dX5_init_2732, List.forall_mem_cons.mpr ⟨dX5_init_2735, List.forall_mem_cons.mpr ⟨dX5_init_2736, List.forall_mem_cons.mpr ⟨dX5_init_2739, List.forall_mem_cons.mpr ⟨dX5_init_2740, List.forall_mem_cons.mpr ⟨dX5_init_2741, List.forall_mem_cons.mpr ⟨dX5_init_2744, List.forall_mem_cons.mpr ⟨dX5_init_2745, List.forall_mem_cons.mpr ⟨dX5_init_2746, List.forall_mem_cons.mpr ⟨dX5_init_2747, List.forall_mem_cons.mpr ⟨dX5_init_2748, List.forall_mem_cons.mpr ⟨dX5_init_2749, List.forall_mem_cons.mpr ⟨dX5_init_2750, List.forall_mem_cons.mpr ⟨dX5_init_2751, List.forall_mem_cons.mpr ⟨dX5_init_2754, List.forall_mem_cons.mpr ⟨dX5_init_2755, List.forall_mem_cons.mpr ⟨dX5_init_2758, List.forall_mem_cons.mpr ⟨dX5_init_2760, List.forall_mem_cons.mpr ⟨dX5_init_2761, List.forall_mem_cons.mpr ⟨dX5_init_2762, List.forall_mem_cons.mpr ⟨dX5_init_2763, List.forall_mem_cons.mpr ⟨dX5_init_2764, List.forall_mem_cons.mpr ⟨dX5_init_2767, List.forall_mem_cons.mpr ⟨dX5_init_2768, List.forall_mem_cons.mpr ⟨dX5_init_2771, List.forall_mem_cons.mpr ⟨dX5_init_2772, List.forall_mem_cons.mpr ⟨dX5_init_2775, List.forall_mem_cons.mpr ⟨dX5_init_2776, List.forall_mem_cons.mpr ⟨dX5_init_2777, List.forall_mem_cons.mpr ⟨dX5_init_2778, List.forall_mem_cons.mpr ⟨dX5_init_2779, List.forall_mem_cons.mpr ⟨dX5_init_2782, fun _ h => absurd h List.not_mem_nil⟩⟩⟩⟩⟩⟩⟩⟩⟩⟩⟩⟩⟩⟩⟩⟩⟩⟩⟩⟩⟩⟩⟩⟩⟩⟩⟩⟩⟩⟩⟩⟩⟩⟩⟩⟩⟩⟩⟩⟩
def mi_t56_38 : List (Nat × Instr × Nat) := [(2783, .iload_n 2, 1), (2784, .iadd, 1), (2785, .iaload, 1), (2786, .ior, 1), (2787, .iastore, 1), (2788, .iinc 2 1, 3), (2791, .goto (-42), 3), (2794, .iinc 1 1, 3), (2797, .goto (-68), 3), (2800, .return_, 1)]
theorem mi_k56_38 : ∀ q ∈ mi_t56_38, decode cX5_init q.1 = .ok q.2 := List.forall_mem_cons.mpr ⟨dX5_init_2783, List.forall_mem_cons.mpr ⟨dX5_init_2784, List.forall_mem_cons.mpr ⟨dX5_init_2785, List.forall_mem_cons.mpr ⟨dX5_init_2786, List.forall_mem_cons.mpr ⟨dX5_init_2787, List.forall_mem_cons.mpr ⟨dX5_init_2788, List.forall_mem_cons.mpr ⟨dX5_init_2791, List.forall_mem_cons.mpr ⟨dX5_init_2794, List.forall_mem_cons.mpr ⟨dX5_init_2797, List.forall_mem_cons.mpr ⟨dX5_init_2800, fun _ h => absurd h List.not_mem_nil⟩⟩⟩⟩⟩⟩⟩⟩⟩⟩
def mi_t56 : mi_T := [(62, mi_t56_0), (130, mi_t56_1), (197, mi_t56_2), (265, mi_t56_3), (331, mi_t56_4), (399, mi_t56_5), (467, mi_t56_6), (535, mi_t56_7), (604, mi_t56_8), (672, mi_t56_9), (739, mi_t56_10), (807, mi_t56_11), (874, mi_t56_12), (952, mi_t56_13), (1030, mi_t56_14), (1104, mi_t56_15), (1182, mi_t56_16), (1258, mi_t56_17), (1336, mi_t56_18), (1414, mi_t56_19), (1491, mi_t56_20), (1567, mi_t56_21), (1645, mi_t56_22), (1725, mi_t56_23), (1803, mi_t56_24), (1891, mi_t56_25), (1974, mi_t56_26), (2043, mi_t56_27), (2112, mi_t56_28), (2189, mi_t56_29), (2269, mi_t56_30), (2353, mi_t56_31), (2431, mi_t56_32), (2509, mi_t56_33), (2578, mi_t56_34), (2653, mi_t56_35), (2720, mi_t56_36), (2783, mi_t56_37), (1000000, mi_t56_38)]
theorem mi_k56 : mi_dok cX5_init mi_t56 := List.forall_mem_cons.mpr ⟨mi_k56_0, List.forall_mem_cons.mpr ⟨mi_k56_1, List.forall_mem_cons.mpr ⟨mi_k56_2, List.forall_mem_cons.mpr ⟨mi_k56_3, List.forall_mem_cons.mpr ⟨mi_k56_4, List.forall_mem_cons.mpr ⟨mi_k56_5, List.forall_mem_cons.mpr ⟨mi_k56_6, List.forall_mem_cons.mpr ⟨mi_k56_7, List.forall_mem_cons.mpr ⟨mi_k56_8, List.forall_mem_cons.mpr ⟨mi_k56_9, List.forall_mem_cons.mpr ⟨mi_k56_10, List.forall_mem_cons.mpr ⟨mi_k56_11, List.forall_mem_cons.mpr ⟨mi_k56_12, List.forall_mem_cons.mpr ⟨mi_k56_13, List.forall_mem_cons.mpr ⟨mi_k56_14, List.forall_mem_cons.mpr ⟨mi_k56_15, List.forall_mem_cons.mpr ⟨mi_k56_16, List.forall_mem_cons.mpr ⟨mi_k56_17, List.forall_mem_cons.mpr ⟨mi_k56_18, List.forall_mem_cons.mpr ⟨mi_k56_19, List.forall_mem_cons.mpr ⟨mi_k56_20, List.forall_mem_cons.mpr ⟨mi_k56_21, List.forall_mem_cons.mpr ⟨mi_k56_22, List.forall_mem_cons.mpr ⟨mi_k56_23, List.forall_mem_cons.mpr ⟨mi_k56_24, List.forall_mem_cons.mpr ⟨mi_k56_25, List.forall_mem_cons.mpr ⟨mi_k56_26, List.forall_mem_cons.mpr ⟨mi_k56_27, List.forall_mem_cons.mpr ⟨mi_k56_28, List.forall_mem_cons.mpr ⟨mi_k56_29, List.forall_mem_cons.mpr ⟨mi_k56_30, List.forall_mem_cons.mpr ⟨mi_k56_31, List.forall_mem_cons.mpr ⟨mi_k56_32, List.forall_mem_cons.mpr ⟨mi_k56_33, List.forall_mem_cons.mpr ⟨mi_k56_34, List.forall_mem_cons.mpr ⟨mi_k56_35, List.forall_mem_cons.mpr ⟨mi_k56_36, List.forall_mem_cons.mpr ⟨mi_k56_37, List.forall_mem_cons.mpr ⟨mi_k56_38, fun _ h => absurd h List.not_mem_nil⟩⟩⟩⟩⟩⟩⟩⟩⟩⟩⟩⟩⟩⟩⟩⟩⟩⟩⟩⟩⟩⟩⟩⟩⟩⟩⟩⟩⟩⟩⟩⟩⟩⟩⟩⟩⟩⟩⟩
def mi_m56 : mi_M := (mi_t56, 5, none, 3, 2, 0, yX5_init, cX5_init)
def mi_t57_0 : List (Nat × Instr × Nat) := [(0, .iconst 1, 1), (1, .iload_n 0, 1), (2, .ishl, 1), (3, .ireturn, 1)]
theorem mi_k57_0 : ∀ q ∈ mi_t57_0, decode cX5_bit q.1 = .ok q.2 := List.forall_mem_cons.mpr ⟨dX5_bit_0, List.forall_mem_cons.mpr ⟨dX5_bit_1, List.forall_mem_cons.mpr ⟨dX5_bit_2, List.forall_mem_cons.mpr ⟨dX5_bit_3, fun _ h => absurd h List.not_mem_nil⟩⟩⟩⟩
def mi_t57 : mi_T := [(1000000, mi_t57_0)]
theorem mi_k57 : mi_dok cX5_bit mi_t57 := List.forall_mem_cons.mpr ⟨mi_k57_0, fun _ h => absurd h List.not_mem_nil⟩
def mi_m57 : mi_M := (mi_t57, 5, (some .int), 1, 0, 1, yX5_bit, cX5_bit)
def mi_t58_0 : List (Nat × Instr × Nat) := [(0, .aload_n 0, 1), (1, .getfield 22, 3), (4, .iload_n 1, 1), (5, .bipush 12, 2), (7, .imul, 1), (8, .iload_n 2, 1), (9, .iadd, 1), (10, .iload_n 3, 1), (11, .iastore, 1), (12, .return_, 1)]
theorem mi_k58_0 : ∀ q ∈ mi_t58_0, decode cX5_have q.1 = .ok q.2 := List.forall_mem_cons.mpr ⟨dX5_have_0, List.forall_mem_cons.mpr ⟨dX5_have_1, List.forall_mem_cons.mpr ⟨dX5_have_4, List.forall_mem_cons.mpr ⟨dX5_have_5, List.forall_mem_cons.mpr ⟨dX5_have_7, List.forall_mem_cons.mpr ⟨dX5_have_8, List.forall_mem_cons.mpr ⟨dX5_have_9, List.forall_mem_cons.mpr ⟨dX5_have_10, List.forall_mem_cons.mpr ⟨dX5_have_11, List.forall_mem_cons.mpr ⟨dX5_have_12, fun _ h => absurd h List.not_mem_nil⟩⟩⟩⟩⟩⟩⟩⟩⟩⟩
def mi_t58 : mi_T := [(1000000, mi_t58_0)]
theorem mi_k58 : mi_dok cX5_have mi_t58 := List.forall_mem_cons.mpr ⟨mi_k58_0, fun _ h => absurd h List.not_mem_nil⟩
def mi_m58 : mi_M := (mi_t58, 5, none, 4, 1, 3, yX5_have, cX5_have)
def mi_t59_0 : List (Nat × Instr × Nat) := [(0, .iload_n 0, 1), (1, .istore_n 1, 1), (2, .iload_n 1, 1), (3, .iconst 3, 1), (4, .invokestatic 84, 3), (7, .iand, 1), (8, .ifCond .eq 15, 3), (11, .iload_n 1, 1), (12, .iconst 1, 1), (13, .invokestatic 84, 3), (16, .iconst 2, 1), (17, .invokestatic 84, 3), (20, .ior, 1), (21, .ior, 1), (22, .istore_n 1, 1), (23, .iload_n 1, 1), (24, .iconst 5, 1), (25, .invokestatic 84, 3), (28, .iand, 1), (29, .ifCond .eq 10, 3), (32, .iload_n 1, 1), (33, .iconst 4, 1), (34, .invokestatic 84, 3), (37, .ior, 1), (38, .istore_n 1, 1), (39, .iload_n 1, 1), (40, .ireturn, 1)]
theorem mi_k59_0 : ∀ q ∈ mi_t59_0, decode cX5_closed q.1 = .ok q.2 := List.forall_mem_cons.mpr ⟨dX5_closed_0, List.forall_mem_cons.mpr ⟨dX5_closed_1, List.forall_mem_cons.mpr ⟨dX5_closed_2, List.forall_mem_cons.mpr ⟨dX5_closed_3, List.forall_mem_cons.mpr ⟨dX5_closed_4, List.forall_mem_cons.mpr ⟨dX5_closed_7, List.forall_mem_cons.mpr ⟨dX5_closed_8, List.forall_mem_cons.mpr ⟨dX5_closed_11, List.forall_mem_cons.mpr ⟨dX5_closed_12, List.forall_mem_cons.mpr ⟨dX5_closed_13, List.forall_mem_cons.mpr ⟨dX5_closed_16, List.forall_mem_cons.mpr ⟨dX5_closed_17, List.forall_mem_cons.mpr ⟨dX5_closed_20, List.forall_mem_cons.mpr ⟨dX5_closed_21, List.forall_mem_cons.mpr ⟨dX5_closed_22, List.forall_mem_cons.mpr ⟨dX5_closed_23, List.forall_mem_cons.mpr ⟨dX5_closed_24, List.forall_mem_cons.mpr ⟨dX5_closed_25, List.forall_mem_cons.mpr ⟨dX5_closed_28, List.forall_mem_cons.mpr ⟨dX5_closed_29, List.forall_mem_cons.mpr ⟨dX5_closed_32, List.forall_mem_cons.mpr ⟨dX5_closed_33, List.forall_mem_cons.mpr ⟨dX5_closed_34, List.forall_mem_cons.mpr ⟨dX5_closed_37, List.forall_mem_cons.mpr ⟨dX5_closed_38, List.forall_mem_cons.mpr ⟨dX5_closed_39, List.forall_mem_cons.mpr ⟨dX5_closed_40, fun _ h => absurd h List.not_mem_nil⟩⟩⟩⟩⟩⟩⟩⟩⟩⟩⟩⟩⟩⟩⟩⟩⟩⟩⟩⟩⟩⟩⟩⟩⟩⟩⟩
def mi_t59 : mi_T := [(1000000, mi_t59_0)]
theorem mi_k59 : mi_dok cX5_closed mi_t59 := List.forall_mem_cons.mpr ⟨mi_k59_0, fun _ h => absurd h List.not_mem_nil⟩
def mi_m59 : mi_M := (mi_t59, 5, (some .int), 2, 0, 1, yX5_closed, cX5_closed)
def mi_t60_0 : List (Nat × Instr × Nat) := [(0, .aload_n 0, 1), (1, .getfield 16, 3), (4, .iload_n 1, 1), (5, .iload_n 2, 1), (6, .iastore, 1), (7, .aload_n 0, 1), (8, .getfield 19, 3), (11, .iload_n 1, 1), (12, .aload_n 0, 1), (13, .getfield 19, 3), (16, .iload_n 2, 1), (17, .iaload, 1), (18, .iload_n 3, 1), (19, .invokestatic 88, 3), (22, .ior, 1), (23, .iastore, 1), (24, .return_, 1)]
theorem mi_k60_0 : ∀ q ∈ mi_t60_0, decode cX5_heir q.1 = .ok q.2 := List.forall_mem_cons.mpr ⟨dX5_heir_0, List.forall_mem_cons.mpr ⟨dX5_heir_1, List.forall_mem_cons.mpr ⟨dX5_heir_4, List.forall_mem_cons.mpr ⟨dX5_heir_5, List.forall_mem_cons.mpr ⟨dX5_heir_6, List.forall_mem_cons.mpr ⟨dX5_heir_7, List.forall_mem_cons.mpr ⟨dX5_heir_8, List.forall_mem_cons.mpr ⟨dX5_heir_11, List.forall_mem_cons.mpr ⟨dX5_heir_12, List.forall_mem_cons.mpr ⟨dX5_heir_13, List.forall_mem_cons.mpr ⟨dX5_heir_16, List.forall_mem_cons.mpr ⟨dX5_heir_17, List.forall_mem_cons.mpr ⟨dX5_heir_18, List.forall_mem_cons.mpr ⟨dX5_heir_19, List.forall_mem_cons.mpr ⟨dX5_heir_22, List.forall_mem_cons.mpr ⟨dX5_heir_23, List.forall_mem_cons.mpr ⟨dX5_heir_24, fun _ h => absurd h List.not_mem_nil⟩⟩⟩⟩⟩⟩⟩⟩⟩⟩⟩⟩⟩⟩⟩⟩⟩
def mi_t60 : mi_T := [(1000000, mi_t60_0)]
theorem mi_k60 : mi_dok cX5_heir mi_t60 := List.forall_mem_cons.mpr ⟨mi_k60_0, fun _ h => absurd h List.not_mem_nil⟩
def mi_m60 : mi_M := (mi_t60, 5, none, 4, 1, 3, yX5_heir, cX5_heir)
def mi_t61_0 : List (Nat × Instr × Nat) := [(0, .iload_n 1, 1), (1, .istore_n 3, 1), (2, .iload_n 3, 1), (3, .bipush 6, 2), (5, .if_icmp .lt 40, 3), (8, .aload_n 0, 1), (9, .getfield 22, 3), (12, .iload_n 3, 1), (13, .bipush 12, 2), (15, .imul, 1), (16, .iload_n 2, 1), (17, .iadd, 1), (18, .iaload, 1), (19, .iconst (-1), 1), (20, .if_icmp .eq 15, 3), (23, .aload_n 0, 1), (24, .getfield 22, 3), (27, .iload_n 3, 1), (28, .bipush 12, 2), (30, .imul, 1), (31, .iload_n 2, 1), (32, .iadd, 1), (33, .iaload, 1), (34, .ireturn, 1), (35, .aload_n 0, 1), (36, .getfield 16, 3), (39, .iload_n 3, 1), (40, .iaload, 1), (41, .istore_n 3, 1), (42, .goto (-40), 3), (45, .aload_n 0, 1), (46, .aload_n 0, 1), (47, .getfield 19, 3), (50, .iload_n 1, 1), (51, .iaload, 1), (52, .iload_n 2, 1), (53, .invokevirtual 91, 3), (56, .ireturn, 1)]
theorem mi_k61_0 : ∀ q ∈ mi_t61_0, decode cX5_select q.1 = .ok q.2 := List.forall_mem_cons.mpr ⟨dX5_select_0, List.forall_mem_cons.mpr ⟨dX5_select_1, List.forall_mem_cons.mpr ⟨dX5_select_2, List.forall_mem_cons.mpr ⟨dX5_select_3, List.forall_mem_cons.mpr ⟨dX5_select_5, List.forall_mem_cons.mpr ⟨dX5_select_8, List.forall_mem_cons.mpr ⟨dX5_select_9, List.forall_mem_cons.mpr ⟨dX5_select_12, List.forall_mem_cons.mpr ⟨dX5_select_13, List.forall_mem_cons.mpr ⟨dX5_select_15, List.forall_mem_cons.mpr ⟨dX5_select_16, List.forall_mem_cons.mpr ⟨dX5_select_17, List.forall_mem_cons.mpr ⟨dX5_select_18, List.forall_mem_cons.mpr ⟨dX5_select_19, List.forall_mem_cons.mpr ⟨dX5_select_20, List.forall_mem_cons.mpr ⟨dX5_select_23, List.forall_mem_cons.mpr ⟨dX5_select_24, List.forall_mem_cons.mpr ⟨dX5_select_27, List.forall_mem_cons.mpr ⟨dX5_select_28, List.forall_mem_cons.mpr ⟨dX5_select_30, List.forall_mem_cons.mpr ⟨dX5_select_31, List.forall_mem_cons.mpr ⟨dX5_select_32, List.forall_mem_cons.mpr ⟨dX5_select_33, List.forall_mem_cons.mpr ⟨dX5_select_34, List.forall_mem_cons.mpr ⟨dX5_select_35, List.forall_mem_cons.mpr ⟨dX5_select_36, List.forall_mem_cons.mpr ⟨dX5_select_39, List.forall_mem_cons.mpr ⟨dX5_select_40, List.forall_mem_cons.mpr ⟨dX5_select_41, List.forall_mem_cons.mpr ⟨dX5_select_42, List.forall_mem_cons.mpr ⟨dX5_select_45, List.forall_mem_cons.mpr ⟨dX5_select_46, List.forall_mem_cons.mpr ⟨dX5_select_47, List.forall_mem_cons.mpr ⟨dX5_select_50, List.forall_mem_cons.mpr ⟨dX5_select_51, List.forall_mem_cons.mpr ⟨dX5_select_52, List.forall_mem_cons.mpr ⟨dX5_select_53, List.forall_mem_cons.mpr ⟨dX5_select_56, fun _ h => absurd h List.not_mem_nil⟩⟩⟩⟩⟩⟩⟩⟩⟩⟩⟩⟩⟩⟩⟩⟩⟩⟩⟩⟩⟩⟩⟩⟩⟩⟩⟩⟩⟩⟩⟩⟩⟩⟩⟩⟩⟩⟩
def mi_t61 : mi_T := [(1000000, mi_t61_0)]
theorem mi_k61 : mi_dok cX5_select mi_t61 := List.forall_mem_cons.mpr ⟨mi_k61_0, fun _ h => absurd h List.not_mem_nil⟩
def mi_m61 : mi_M := (mi_t61, 5, (some .int), 4, 1, 2, yX5_select, cX5_select)
def mi_t62_0 : List (Nat × Instr × Nat) := [(0, .iconst 1, 1), (1, .istore_n 3, 1), (2, .iload_n 3, 1), (3, .iconst 5, 1), (4, .if_icmp .gt 122, 3), (7, .iload_n 1, 1), (8, .iload_n 3, 1), (9, .invokestatic 84, 3), (12, .iand, 1), (13, .ifCond .eq 107, 3), (16, .aload_n 0, 1), (17, .getfield 22, 3), (20, .iload_n 3, 1), (21, .bipush 12, 2), (23, .imul, 1), (24, .iload_n 2, 1), (25, .iadd, 1), (26, .iaload, 1), (27, .iconst (-1), 1), (28, .if_icmp .ne 6, 3), (31, .goto 89, 3), (34, .iconst 1, 1), (35, .istore 4, 2), (37, .iconst 1, 1), (38, .istore 5, 2), (40, .iload 5, 2), (42, .iconst 5, 1), (43, .if_icmp .gt 60, 3), (46, .iload 5, 2), (48, .iload_n 3, 1), (49, .if_icmp .eq 48, 3), (52, .iload_n 1, 1), (53, .iload 5, 2), (55, .invokestatic 84, 3), (58, .iand, 1), (59, .ifCond .eq 38, 3), (62, .aload_n 0, 1), (63, .getfield 22, 3), (66, .iload 5, 2), (68, .bipush 12, 2)]
theorem mi_k62_0 : ∀ q ∈ mi_t62_0, decode cX5_lowest q.1 = .ok q.2 := List.forall_mem_cons.mpr ⟨dX5_lowest_0, List.forall_mem_cons.mpr ⟨dX5_lowest_1, List.forall_mem_cons.mpr ⟨dX5_lowest_2, List.forall_mem_cons.mpr ⟨dX5_lowest_3, List.forall_mem_cons.mpr ⟨dX5_lowest_4, List.forall_mem_cons.mpr ⟨dX5_lowest_7, List.forall_mem_cons.mpr ⟨dX5_lowest_8, List.forall_mem_cons.mpr ⟨dX5_lowest_9, List.forall_mem_cons.mpr ⟨dX5_lowest_12, List.forall_mem_cons.mpr ⟨dX5_lowest_13, List.forall_mem_cons.mpr ⟨dX5_lowest_16, List.forall_mem_cons.mpr ⟨dX5_lowest_17, List.forall_mem_cons.mpr ⟨dX5_lowest_20, List.forall_mem_cons.mpr ⟨dX5_lowest_21, List.forall_mem_cons.mpr ⟨dX5_lowest_23, List.forall_mem_cons.mpr ⟨dX5_lowest_24, List.forall_mem_cons.mpr ⟨dX5_lowest_25, List.forall_mem_cons.mpr ⟨dX5_lowest_26, List.forall_mem_cons.mpr ⟨dX5_lowest_27, List.forall_mem_cons.mpr ⟨dX5_lowest_28, List.forall_mem_cons.mpr ⟨dX5_lowest_31, List.forall_mem_cons.mpr ⟨dX5_lowest_34, List.forall_mem_cons.mpr ⟨dX5_lowest_35, List.forall_mem_cons.mpr ⟨dX5_lowest_37, List.forall_mem_cons.mpr ⟨dX5_lowest_38, List.forall_mem_cons.mpr ⟨dX5_lowest_40, List.forall_mem_cons.mpr ⟨dX5_lowest_42, List.forall_mem_cons.mpr ⟨dX5_lowest_43, List.forall_mem_cons.mpr ⟨dX5_lowest_46, List.forall_mem_cons.mpr ⟨dX5_lowest_48, List.forall_mem_cons.mpr ⟨dX5_lowest_49, List.forall_mem_cons.mpr ⟨dX5_lowest_52, List.forall_mem_cons.mpr ⟨dX5_lowest_53, List.forall_mem_cons.mpr ⟨dX5_lowest_55, List.forall_mem_cons.mpr ⟨dX5_lowest_58, List.forall_mem_cons.mpr ⟨dX5_lowest_59, List.forall_mem_cons.mpr ⟨dX5_lowest_62, List.forall_mem_cons.mpr ⟨dX5_lowest_63, List.forall_mem_cons.mpr ⟨dX5_lowest_66, List.forall_mem_cons.mpr ⟨dX5_lowest_68, fun _ h => absurd h List.not_mem_nil⟩⟩⟩⟩⟩⟩⟩⟩⟩⟩⟩⟩⟩⟩⟩⟩⟩⟩⟩⟩⟩⟩⟩⟩⟩⟩⟩⟩⟩⟩⟩⟩⟩⟩⟩⟩⟩⟩⟩⟩
def mi_t62_1 : List (Nat × Instr × Nat) := [(70, .imul, 1), (71, .iload_n 2, 1), (72, .iadd, 1), (73, .iaload, 1), (74, .iconst (-1), 1), (75, .if_icmp .eq 22, 3), (78, .iload 5, 2), (80, .invokestatic 84, 3), (83, .invokestatic 88, 3), (86, .iload_n 3, 1), (87, .invokestatic 84, 3), (90, .iand, 1), (91, .ifCond .eq 6, 3), (94, .iconst 0, 1), (95, .istore 4, 2), (97, .iinc 5 1, 3), (100, .goto (-60), 3), (103, .iload 4, 2), (105, .ifCond .eq 15, 3), (108, .aload_n 0, 1), (109, .getfield 22, 3), (112, .iload_n 3, 1), (113, .bipush 12, 2), (115, .imul, 1), (116, .iload_n 2, 1), (117, .iadd, 1), (118, .iaload, 1), (119, .ireturn, 1), (120, .iinc 3 1, 3), (123, .goto (-121), 3), (126, .iconst (-1), 1), (127, .ireturn, 1)]
theorem mi_k62_1 : ∀ q ∈ mi_t62_1, decode cX5_lowest q.1 = .ok q.2 := List.forall_mem_cons.mpr ⟨dX5_lowest_70, List.forall_mem_cons.mpr ⟨dX5_lowest_71, List.forall_mem_cons.mpr ⟨dX5_lowest_72, List.forall_mem_cons.mpr ⟨dX5_lowest_73, List.forall_mem_cons.mpr ⟨dX5_lowest_74, List.forall_mem_cons.mpr ⟨dX5_lowest_75, List.forall_mem_cons.mpr ⟨dX5_lowest_78, List.forall_mem_cons.mpr ⟨dX5_lowest_80, List.forall_mem_cons.mpr ⟨dX5_lowest_83, List.forall_mem_cons.mpr ⟨dX5_lowest_86, List.forall_mem_cons.mpr ⟨dX5_lowest_87, List.forall_mem_cons.mpr ⟨dX5_lowest_90, List.forall_mem_cons.mpr ⟨dX5_lowest_91, List.forall_mem_cons.mpr ⟨dX5_lowest_94, List.forall_mem_cons.mpr ⟨dX5_lowest_95, List.forall_mem_cons.mpr ⟨dX5_lowest_97, List.forall_mem_cons.mpr ⟨dX5_lowest_100, List.forall_mem_cons.mpr ⟨dX5_lowest_103, List.forall_mem_cons.mpr ⟨dX5_lowest_105, List.forall_mem_cons.mpr ⟨dX5_lowest_108, List.forall_mem_cons.mpr ⟨dX5_lowest_109, List.forall_mem_cons.mpr ⟨dX5_lowest_112, List.forall_mem_cons.mpr ⟨dX5_lowest_113, List.forall_mem_cons.mpr ⟨dX5_lowest_115, List.forall_mem_cons.mpr ⟨dX5_lowest_116, List.forall_mem_cons.mpr ⟨dX5_lowest_117, List.forall_mem_cons.mpr ⟨dX5_lowest_118, List.forall_mem_cons.mpr ⟨dX5_lowest_119, List.forall_mem_cons.mpr ⟨dX5_lowest_120, List.forall_mem_cons.mpr ⟨dX5_lowest_123, List.forall_mem_cons.mpr ⟨dX5_lowest_126, List.forall_mem_cons.mpr ⟨dX5_lowest_127, fun _ h => absurd h List.not_mem_nil⟩⟩⟩⟩⟩⟩⟩⟩⟩⟩⟩⟩⟩⟩⟩⟩⟩⟩⟩⟩⟩⟩⟩⟩⟩⟩⟩⟩⟩⟩⟩⟩
def mi_t62 : mi_T := [(70, mi_t62_0), (1000000, mi_t62_1)]
theorem mi_k62 : mi_dok cX5_lowest mi_t62 := List.forall_mem_cons.mpr ⟨mi_k62_0, List.forall_mem_cons.mpr ⟨mi_k62_1, fun _ h => absurd h List.not_mem_nil⟩⟩
def mi_m62 : mi_M := (mi_t62, 5, (some .int), 6, 1, 2, yX5_lowest, cX5_lowest)
def mi_t63_0 : List (Nat × Instr × Nat) := [(0, .aload_n 0, 1), (1, .getfield 74, 3), (4, .aload_n 0, 1), (5, .getfield 98, 3), (8, .iload_n 1, 1), (9, .iastore, 1), (10, .aload_n 0, 1), (11, .dup, 1), (12, .getfield 98, 3), (15, .iconst 1, 1), (16, .iadd, 1), (17, .putfield 98, 3), (20, .return_, 1)]
theorem mi_k63_0 : ∀ q ∈ mi_t63_0, decode cX5_push q.1 = .ok q.2 := List.forall_mem_cons.mpr ⟨dX5_push_0, List.forall_mem_cons.mpr ⟨dX5_push_1, List.forall_mem_cons.mpr ⟨dX5_push_4, List.forall_mem_cons.mpr ⟨dX5_push_5, List.forall_mem_cons.mpr ⟨dX5_push_8, List.forall_mem_cons.mpr ⟨dX5_push_9, List.forall_mem_cons.mpr ⟨dX5_push_10, List.forall_mem_cons.mpr ⟨dX5_push_11, List.forall_mem_cons.mpr ⟨dX5_push_12, List.forall_mem_cons.mpr ⟨dX5_push_15, List.forall_mem_cons.mpr ⟨dX5_push_16, List.forall_mem_cons.mpr ⟨dX5_push_17, List.forall_mem_cons.mpr ⟨dX5_push_20, fun _ h => absurd h List.not_mem_nil⟩⟩⟩⟩⟩⟩⟩⟩⟩⟩⟩⟩⟩
def mi_t63 : mi_T := [(1000000, mi_t63_0)]
theorem mi_k63 : mi_dok cX5_push mi_t63 := List.forall_mem_cons.mpr ⟨mi_k63_0, fun _ h => absurd h List.not_mem_nil⟩
def mi_m63 : mi_M := (mi_t63, 5, none, 2, 1, 1, yX5_push, cX5_push)
def mi_t64_0 : List (Nat × Instr × Nat) := [(0, .aload_n 0, 1), (1, .dup, 1), (2, .getfield 98, 3), (5, .iconst 1, 1), (6, .isub, 1), (7, .putfield 98, 3), (10, .aload_n 0, 1), (11, .getfield 74, 3), (14, .aload_n 0, 1), (15, .getfield 98, 3), (18, .iaload, 1), (19, .ireturn, 1)]
theorem mi_k64_0 : ∀ q ∈ mi_t64_0, decode cX5_pop q.1 = .ok q.2 := List.forall_mem_cons.mpr ⟨dX5_pop_0, List.forall_mem_cons.mpr ⟨dX5_pop_1, List.forall_mem_cons.mpr ⟨dX5_pop_2, List.forall_mem_cons.mpr ⟨dX5_pop_5, List.forall_mem_cons.mpr ⟨dX5_pop_6, List.forall_mem_cons.mpr ⟨dX5_pop_7, List.forall_mem_cons.mpr ⟨dX5_pop_10, List.forall_mem_cons.mpr ⟨dX5_pop_11, List.forall_mem_cons.mpr ⟨dX5_pop_14, List.forall_mem_cons.mpr ⟨dX5_pop_15, List.forall_mem_cons.mpr ⟨dX5_pop_18, List.forall_mem_cons.mpr ⟨dX5_pop_19, fun _ h => absurd h List.not_mem_nil⟩⟩⟩⟩⟩⟩⟩⟩⟩⟩⟩⟩
def mi_t64 : mi_T := [(1000000, mi_t64_0)]
theorem mi_k64 : mi_dok cX5_pop mi_t64 := List.forall_mem_cons.mpr ⟨mi_k64_0, fun _ h => absurd h List.not_mem_nil⟩
def mi_m64 : mi_M := (mi_t64, 5, (some .int), 1, 1, 0, yX5_pop, cX5_pop)
def mi_t65_0 : List (Nat × Instr × Nat) := [(0, .aload_n 0, 1), (1, .getfield 102, 3), (4, .bipush 64, 2), (6, .if_icmp .ge 13, 3), (9, .aload_n 0, 1), (10, .getfield 62, 3), (13, .aload_n 0, 1), (14, .getfield 102, 3), (17, .iload_n 1, 1), (18, .iastore, 1), (19, .aload_n 0, 1), (20, .dup, 1), (21, .getfield 102, 3), (24, .iconst 1, 1), (25, .iadd, 1), (26, .putfield 102, 3), (29, .aload_n 0, 1), (30, .getfield 65, 3), (33, .aload_n 0, 1), (34, .getfield 105, 3), (37, .iload_n 1, 1), (38, .iastore, 1), (39, .aload_n 0, 1), (40, .getfield 68, 3), (43, .aload_n 0, 1), (44, .getfield 105, 3), (47, .aload_n 0, 1), (48, .getfield 13, 3), (51, .iload_n 1, 1), (52, .iaload, 1), (53, .iastore, 1), (54, .aload_n 0, 1), (55, .getfield 71, 3), (58, .aload_n 0, 1), (59, .getfield 105, 3), (62, .iload_n 2, 1), (63, .iastore, 1), (64, .aload_n 0, 1), (65, .dup, 1), (66, .getfield 105, 3)]
theorem mi_k65_0 : ∀ q ∈ mi_t65_0, decode cX5_enter q.1 = .ok q.2 := List.forall_mem_cons.mpr ⟨dX5_enter_0, List.forall_mem_cons.mpr ⟨dX5_enter_1, List.forall_mem_cons.mpr ⟨dX5_enter_4, List.forall_mem_cons.mpr ⟨dX5_enter_6, List.forall_mem_cons.mpr ⟨dX5_enter_9, List.forall_mem_cons.mpr ⟨dX5_enter_10, List.forall_mem_cons.mpr ⟨dX5_enter_13, List.forall_mem_cons.mpr ⟨dX5_enter_14, List.forall_mem_cons.mpr ⟨dX5_enter_17, List.forall_mem_cons.mpr ⟨dX5_enter_18, List.forall_mem_cons.mpr ⟨dX5_enter_19, List.forall_mem_cons.mpr ⟨dX5_enter_20, List.forall_mem_cons.mpr ⟨dX5_enter_21, List.forall_mem_cons.mpr ⟨dX5_enter_24, List.forall_mem_cons.mpr ⟨dX5_enter_25, List.forall_mem_cons.mpr ⟨dX5_enter_26, List.forall_mem_cons.mpr ⟨dX5_enter_29, List.forall_mem_cons.mpr ⟨dX5_enter_30, List.forall_mem_cons.mpr ⟨dX5_enter_33, List.forall_mem_cons.mpr ⟨dX5_enter_34, List.forall_mem_cons.mpr ⟨dX5_enter_37, List.forall_mem_cons.mpr ⟨dX5_enter_38, List.forall_mem_cons.mpr ⟨dX5_enter_39, List.forall_mem_cons.mpr ⟨dX5_enter_40, List.forall_mem_cons.mpr ⟨dX5_enter_43, List.forall_mem_cons.mpr ⟨dX5_enter_44, List.forall_mem_cons.mpr ⟨dX5_enter_47, List.forall_mem_cons.mpr ⟨dX5_enter_48, List.forall_mem_cons.mpr ⟨dX5_enter_51, List.forall_mem_cons.mpr ⟨dX5_enter_52, List.forall_mem_cons.mpr ⟨dX5_enter_53, List.forall_mem_cons.mpr ⟨dX5_enter_54, List.forall_mem_cons.mpr ⟨dX5_enter_55, List.forall_mem_cons.mpr ⟨dX5_enter_58, List.forall_mem_cons.mpr ⟨dX5_enter_59, List.forall_mem_cons.mpr ⟨dX5_enter_62, List.forall_mem_cons.mpr ⟨dX5_enter_63, List.forall_mem_cons.mpr ⟨dX5_enter_64, List.forall_mem_cons.mpr ⟨dX5_enter_65, List.forall_mem_cons.mpr ⟨dX5_enter_66, fun _ h => absurd h List.not_mem_nil⟩⟩⟩⟩⟩⟩⟩⟩⟩⟩⟩⟩⟩⟩⟩⟩⟩⟩⟩⟩⟩⟩⟩⟩⟩⟩⟩⟩⟩⟩⟩⟩⟩⟩⟩⟩⟩⟩⟩⟩
def mi_t65_1 : List (Nat × Instr × Nat) := [(69, .iconst 1, 1), (70, .iadd, 1), (71, .putfield 105, 3), (74, .return_, 1)]
theorem mi_k65_1 : ∀ q ∈ mi_t65_1, decode cX5_enter q.1 = .ok q.2 := List.forall_mem_cons.mpr ⟨dX5_enter_69, List.forall_mem_cons.mpr ⟨dX5_enter_70, List.forall_mem_cons.mpr ⟨dX5_enter_71, List.forall_mem_cons.mpr ⟨dX5_enter_74, fun _ h => absurd h List.not_mem_nil⟩⟩⟩⟩
def mi_t65 : mi_T := [(69, mi_t65_0), (1000000, mi_t65_1)]
theorem mi_k65 : mi_dok cX5_enter mi_t65 := List.forall_mem_cons.mpr ⟨mi_k65_0, List.forall_mem_cons.mpr ⟨mi_k65_1, fun _ h => absurd h List.not_mem_nil⟩⟩
def mi_m65 : mi_M := (mi_t65, 5, none, 3, 1, 2, yX5_enter, cX5_enter)
def mi_t66_0 : List (Nat × Instr × Nat) := [(0, .aload_n 0, 1), (1, .iconst 0, 1), (2, .putfield 105, 3), (5, .aload_n 0, 1), (6, .iconst 0, 1), (7, .putfield 98, 3), (10, .aload_n 0, 1), (11, .aload_n 0, 1), (12, .getfield 25, 3), (15, .bipush 10, 2), (17, .aload_n 0, 1), (18, .getfield 34, 3), (21, .iload_n 1, 1), (22, .iaload, 1), (23, .iadd, 1), (24, .bipush 12, 2), (26, .imul, 1), (27, .iload_n 2, 1), (28, .iadd, 1), (29, .iaload, 1), (30, .iload_n 3, 1), (31, .invokevirtual 108, 3), (34, .aload_n 0, 1), (35, .getfield 105, 3), (38, .ifCond .le 224, 3), (41, .aload_n 0, 1), (42, .getfield 105, 3), (45, .iconst 1, 1), (46, .isub, 1), (47, .istore 4, 2), (49, .aload_n 0, 1), (50, .getfield 9, 3), (53, .aload_n 0, 1), (54, .getfield 68, 3), (57, .iload 4, 2), (59, .iaload, 1), (60, .iaload, 1), (61, .istore 5, 2), (63, .aload_n 0, 1), (64, .getfield 68, 3)]
theorem mi_k66_0 : ∀ q ∈ mi_t66_0, decode cX5_act q.1 = .ok q.2 := List.forall_mem_cons.mpr ⟨dX5_act_0, List.forall_mem_cons.mpr ⟨dX5_act_1, List.forall_mem_cons.mpr ⟨dX5_act_2, List.forall_mem_cons.mpr ⟨dX5_act_5, List.forall_mem_cons.mpr ⟨dX5_act_6, List.forall_mem_cons.mpr ⟨dX5_act_7, List.forall_mem_cons.mpr ⟨dX5_act_10, List.forall_mem_cons.mpr ⟨dX5_act_11, List.forall_mem_cons.mpr ⟨dX5_act_12, List.forall_mem_cons.mpr ⟨dX5_act_15, List.forall_mem_cons.mpr ⟨dX5_act_17, List.forall_mem_cons.mpr ⟨dX5_act_18, List.forall_mem_cons.mpr ⟨dX5_act_21, List.forall_mem_cons.mpr ⟨dX5_act_22, List.forall_mem_cons.mpr ⟨dX5_act_23, List.forall_mem_cons.mpr ⟨dX5_act_24, List.forall_mem_cons.mpr ⟨dX5_act_26, List.forall_mem_cons.mpr ⟨dX5_act_27, List.forall_mem_cons.mpr ⟨dX5_act_28, List.forall_mem_cons.mpr ⟨dX5_act_29, List.forall_mem_cons.mpr ⟨dX5_act_30, List.forall_mem_cons.mpr ⟨dX5_act_31, List.forall_mem_cons.mpr ⟨dX5_act_34, List.forall_mem_cons.mpr ⟨dX5_act_35, List.forall_mem_cons.mpr ⟨dX5_act_38, List.forall_mem_cons.mpr ⟨dX5_act_41, List.forall_mem_cons.mpr ⟨dX5_act_42, List.forall_mem_cons.mpr ⟨dX5_act_45, List.forall_mem_cons.mpr ⟨dX5_act_46, List.forall_mem_cons.mpr ⟨dX5_act_47, List.forall_mem_cons.mpr ⟨dX5_act_49, List.forall_mem_cons.mpr ⟨dX5_act_50, List.forall_mem_cons.mpr ⟨dX5_act_53, List.forall_mem_cons.mpr ⟨dX5_act_54, List.forall_mem_cons.mpr ⟨dX5_act_57, List.forall_mem_cons.mpr ⟨dX5_act_59, List.forall_mem_cons.mpr ⟨dX5_act_60, List.forall_mem_cons.mpr ⟨dX5_act_61, List.forall_mem_cons.mpr ⟨dX5_act_63, List.forall_mem_cons.mpr ⟨dX5_act_64, fun _ h => absurd h List.not_mem_nil⟩⟩⟩⟩⟩⟩⟩⟩⟩⟩⟩⟩⟩⟩⟩⟩⟩⟩⟩⟩⟩⟩⟩⟩⟩⟩⟩⟩⟩⟩⟩⟩⟩⟩⟩⟩⟩⟩⟩⟩
def mi_t66_1 : List (Nat × Instr × Nat) := [(67, .iload 4, 2), (69, .dup2, 1), (70, .iaload, 1), (71, .iconst 1, 1), (72, .iadd, 1), (73, .iastore, 1), (74, .iload 5, 2), (76, .sipush 3000, 3), (79, .if_icmp .lt 16, 3), (82, .aload_n 0, 1), (83, .dup, 1), (84, .getfield 105, 3), (87, .iconst 1, 1), (88, .isub, 1), (89, .putfield 105, 3), (92, .goto 167, 3), (95, .iload 5, 2), (97, .sipush 2000, 3), (100, .if_icmp .lt 20, 3), (103, .aload_n 0, 1), (104, .iload 5, 2), (106, .sipush 2000, 3), (109, .isub, 1), (110, .aload_n 0, 1), (111, .invokevirtual 112, 3), (114, .invokevirtual 108, 3), (117, .goto 142, 3), (120, .iload 5, 2), (122, .sipush 1312, 3), (125, .if_icmp .lt 28, 3), (128, .aload_n 0, 1), (129, .aload_n 0, 1), (130, .getfield 25, 3), (133, .iload 5, 2), (135, .sipush 1312, 3), (138, .isub, 1), (139, .bipush 12, 2), (141, .iadd, 1), (142, .iaload, 1), (143, .aload_n 0, 1)]
theorem mi_k66_1 : ∀ q ∈ mi_t66_1, decode cX5_act q.1 = .ok q.2 := List.forall_mem_cons.mpr ⟨dX5_act_67, List.forall_mem_cons.mpr ⟨dX5_act_69, List.forall_mem_cons.mpr ⟨dX5_act_70, List.forall_mem_cons.mpr ⟨dX5_act_71, List.forall_mem_cons.mpr ⟨dX5_act_72, List.forall_mem_cons.mpr ⟨dX5_act_73, List.forall_mem_cons.mpr ⟨dX5_act_74, List.forall_mem_cons.mpr ⟨dX5_act_76, List.forall_mem_cons.mpr ⟨dX5_act_79, List.forall_mem_cons.mpr ⟨dX5_act_82, List.forall_mem_cons.mpr ⟨dX5_act_83, List.forall_mem_cons.mpr ⟨dX5_act_84, List.forall_mem_cons.mpr ⟨dX5_act_87, List.forall_mem_cons.mpr ⟨dX5_act_88, List.forall_mem_cons.mpr ⟨dX5_act_89, List.forall_mem_cons.mpr ⟨dX5_act_92, List.forall_mem_cons.mpr ⟨dX5_act_95, List.forall_mem_cons.mpr ⟨dX5_act_97, List.forall_mem_cons.mpr ⟨dX5_act_100, List.forall_mem_cons.mpr ⟨dX5_act_103, List.forall_mem_cons.mpr ⟨dX5_act_104, List.forall_mem_cons.mpr ⟨dX5_act_106, List.forall_mem_cons.mpr ⟨dX5_act_109, List.forall_mem_cons.mpr ⟨dX5_act_110, List.forall_mem_cons.mpr ⟨dX5_act_111, List.forall_mem_cons.mpr ⟨dX5_act_114, List.forall_mem_cons.mpr ⟨dX5_act_117, List.forall_mem_cons.mpr ⟨dX5_act_120, List.forall_mem_cons.mpr ⟨dX5_act_122, List.forall_mem_cons.mpr ⟨dX5_act_125, List.forall_mem_cons.mpr ⟨dX5_act_128, List.forall_mem_cons.mpr ⟨dX5_act_129, List.forall_mem_cons.mpr ⟨dX5_act_130, List.forall_mem_cons.mpr ⟨dX5_act_133, List.forall_mem_cons.mpr ⟨dX5_act_135, List.forall_mem_cons.mpr ⟨dX5_act_138, List.forall_mem_cons.mpr ⟨dX5_act_139, List.forall_mem_cons.mpr ⟨dX5_act_141, List.forall_mem_cons.mpr ⟨dX5_act_142, List.forall_mem_cons.mpr ⟨dX5_act_143, fun _ h => absurd h List.not_mem_nil⟩⟩⟩⟩⟩⟩⟩⟩⟩⟩⟩⟩⟩⟩⟩⟩⟩⟩⟩⟩⟩⟩⟩⟩⟩⟩⟩⟩⟩⟩⟩⟩⟩⟩⟩⟩⟩⟩⟩⟩
def mi_t66_2 : List (Nat × Instr × Nat) := [(144, .invokevirtual 112, 3), (147, .invokevirtual 108, 3), (150, .goto 109, 3), (153, .iload 5, 2), (155, .sipush 1200, 3), (158, .if_icmp .lt 44, 3), (161, .aload_n 0, 1), (162, .aload_n 0, 1), (163, .getfield 25, 3), (166, .aload_n 0, 1), (167, .getfield 16, 3), (170, .aload_n 0, 1), (171, .getfield 65, 3), (174, .iload 4, 2), (176, .iaload, 1), (177, .bipush 10, 2), (179, .idiv, 1), (180, .iaload, 1), (181, .bipush 12, 2), (183, .imul, 1), (184, .iload 5, 2), (186, .iadd, 1), (187, .sipush 1200, 3), (190, .isub, 1), (191, .iaload, 1), (192, .aload_n 0, 1), (193, .invokevirtual 112, 3), (196, .invokevirtual 108, 3), (199, .goto 60, 3), (202, .iload 5, 2), (204, .sipush 1100, 3), (207, .if_icmp .lt 38, 3), (210, .aload_n 0, 1), (211, .aload_n 0, 1), (212, .getfield 25, 3), (215, .bipush 10, 2), (217, .aload_n 0, 1), (218, .getfield 34, 3), (221, .iload_n 1, 1), (222, .iaload, 1)]
theorem mi_k66_2 : ∀ q ∈ mi_t66_2, decode cX5_act q.1 = .ok q.2 := List.forall_mem_cons.mpr ⟨dX5_act_144, List.forall_mem_cons.mpr ⟨dX5_act_147, List.forall_mem_cons.mpr ⟨dX5_act_150, List.forall_mem_cons.mpr ⟨dX5_act_153, List.forall_mem_cons.mpr ⟨dX5_act_155, List.forall_mem_cons.mpr ⟨dX5_act_158, List.forall_mem_cons.mpr ⟨dX5_act_161, List.forall_mem_cons.mpr ⟨dX5_act_162, List.forall_mem_cons.mpr ⟨dX5_act_163, List.forall_mem_cons.mpr ⟨dX5_act_166, List.forall_mem_cons.mpr ⟨dX5_act_167, List.forall_mem_cons.mpr ⟨dX5_act_170, List.forall_mem_cons.mpr ⟨dX5_act_171, List.forall_mem_cons.mpr ⟨dX5_act_174, List.forall_mem_cons.mpr ⟨dX5_act_176, List.forall_mem_cons.mpr ⟨dX5_act_177, List.forall_mem_cons.mpr ⟨dX5_act_179, List.forall_mem_cons.mpr ⟨dX5_act_180, List.forall_mem_cons.mpr ⟨dX5_act_181, List.forall_mem_cons.mpr ⟨dX5_act_183, List.forall_mem_cons.mpr ⟨dX5_act_184, List.forall_mem_cons.mpr ⟨dX5_act_186, List.forall_mem_cons.mpr ⟨dX5_act_187, List.forall_mem_cons.mpr ⟨dX5_act_190, List.forall_mem_cons.mpr ⟨dX5_act_191, List.forall_mem_cons.mpr ⟨dX5_act_192, List.forall_mem_cons.mpr ⟨dX5_act_193, List.forall_mem_cons.mpr ⟨dX5_act_196, List.forall_mem_cons.mpr ⟨dX5_act_199, List.forall_mem_cons.mpr ⟨dX5_act_202, List.forall_mem_cons.mpr ⟨dX5_act_204, List.forall_mem_cons.mpr ⟨dX5_act_207, List.forall_mem_cons.mpr ⟨dX5_act_210, List.forall_mem_cons.mpr ⟨dX5_act_211, List.forall_mem_cons.mpr ⟨dX5_act_212, List.forall_mem_cons.mpr ⟨dX5_act_215, List.forall_mem_cons.mpr ⟨dX5_act_217, List.forall_mem_cons.mpr ⟨dX5_act_218, List.forall_mem_cons.mpr ⟨dX5_act_221, List.forall_mem_cons.mpr ⟨dX5_act_222, fun _ h => absurd h List.not_mem_nil⟩⟩⟩⟩⟩⟩⟩⟩⟩⟩⟩⟩⟩⟩⟩⟩⟩⟩⟩⟩⟩⟩⟩⟩⟩⟩⟩⟩⟩⟩⟩⟩⟩⟩⟩⟩⟩⟩⟩⟩
def mi_t66_3 : List (Nat × Instr × Nat) := [(223, .iadd, 1), (224, .bipush 12, 2), (226, .imul, 1), (227, .iload 5, 2), (229, .iadd, 1), (230, .sipush 1100, 3), (233, .isub, 1), (234, .iaload, 1), (235, .aload_n 0, 1), (236, .invokevirtual 112, 3), (239, .invokevirtual 108, 3), (242, .goto 17, 3), (245, .aload_n 0, 1), (246, .iload_n 1, 1), (247, .iload 5, 2), (249, .aload_n 0, 1), (250, .getfield 71, 3), (253, .iload 4, 2), (255, .iaload, 1), (256, .invokevirtual 116, 3), (259, .goto (-225), 3), (262, .aload_n 0, 1), (263, .invokevirtual 112, 3), (266, .ireturn, 1)]
theorem mi_k66_3 : ∀ q ∈ mi_t66_3, decode cX5_act q.1 = .ok q.2 := List.forall_mem_cons.mpr ⟨dX5_act_223, List.forall_mem_cons.mpr ⟨dX5_act_224, List.forall_mem_cons.mpr ⟨dX5_act_226, List.forall_mem_cons.mpr ⟨dX5_act_227, List.forall_mem_cons.mpr ⟨dX5_act_229, List.forall_mem_cons.mpr ⟨dX5_act_230, List.forall_mem_cons.mpr ⟨dX5_act_233, List.forall_mem_cons.mpr ⟨dX5_act_234, List.forall_mem_cons.mpr ⟨dX5_act_235, List.forall_mem_cons.mpr ⟨dX5_act_236, List.forall_mem_cons.mpr ⟨dX5_act_239, List.forall_mem_cons.mpr ⟨dX5_act_242, List.forall_mem_cons.mpr ⟨dX5_act_245, List.forall_mem_cons.mpr ⟨dX5_act_246, List.forall_mem_cons.mpr ⟨dX5_act_247, List.forall_mem_cons.mpr ⟨dX5_act_249, List.forall_mem_cons.mpr ⟨dX5_act_250, List.forall_mem_cons.mpr ⟨dX5_act_253, List.forall_mem_cons.mpr ⟨dX5_act_255, List.forall_mem_cons.mpr ⟨dX5_act_256, List.forall_mem_cons.mpr ⟨dX5_act_259, List.forall_mem_cons.mpr ⟨dX5_act_262, List.forall_mem_cons.mpr ⟨dX5_act_263, List.forall_mem_cons.mpr ⟨dX5_act_266, fun _ h => absurd h List.not_mem_nil⟩⟩⟩⟩⟩⟩⟩⟩⟩⟩⟩⟩⟩⟩⟩⟩⟩⟩⟩⟩⟩⟩⟩⟩
def mi_t66 : mi_T := [(67, mi_t66_0), (144, mi_t66_1), (223, mi_t66_2), (1000000, mi_t66_3)]
theorem mi_k66 : mi_dok cX5_act mi_t66 := List.forall_mem_cons.mpr ⟨mi_k66_0, List.forall_mem_cons.mpr ⟨mi_k66_1, List.forall_mem_cons.mpr ⟨mi_k66_2, List.forall_mem_cons.mpr ⟨mi_k66_3, fun _ h => absurd h List.not_mem_nil⟩⟩⟩⟩
def mi_m66 : mi_M := (mi_t66, 5, (some .int), 6, 1, 3, yX5_act, cX5_act)
def mi_t67_0 : List (Nat × Instr × Nat) := [(0, .iload_n 2, 1), (1, .sipush 1000, 3), (4, .if_icmp .ge 9, 3), (7, .aload_n 0, 1), (8, .iload_n 2, 1), (9, .invokevirtual 119, 3), (12, .return_, 1), (13, .iload_n 2, 1), (14, .tableswitch 104 1000 1009 #[54, 60, 71, 104, 104, 104, 104, 104, 82, 93], 54), (68, .aload_n 0, 1), (69, .iload_n 3, 1), (70, .invokevirtual 119, 3), (73, .return_, 1), (74, .aload_n 0, 1), (75, .aload_n 0, 1), (76, .getfield 37, 3), (79, .iload_n 1, 1), (80, .iaload, 1), (81, .invokevirtual 119, 3), (84, .return_, 1), (85, .aload_n 0, 1), (86, .aload_n 0, 1), (87, .getfield 40, 3), (90, .iload_n 1, 1), (91, .iaload, 1), (92, .invokevirtual 119, 3), (95, .return_, 1), (96, .aload_n 0, 1), (97, .getfield 37, 3), (100, .iload_n 1, 1), (101, .aload_n 0, 1), (102, .invokevirtual 112, 3), (105, .iastore, 1), (106, .return_, 1), (107, .aload_n 0, 1), (108, .getfield 40, 3), (111, .iload_n 1, 1), (112, .aload_n 0, 1), (113, .invokevirtual 112, 3), (116, .iastore, 1)]
theorem mi_k67_0 : ∀ q ∈ mi_t67_0, decode cX5_step q.1 = .ok q.2 := List.forall_mem_cons.mpr ⟨dX5_step_0, List.forall_mem_cons.mpr ⟨dX5_step_1, List.forall_mem_cons.mpr ⟨dX5_step_4, List.forall_mem_cons.mpr ⟨dX5_step_7, List.forall_mem_cons.mpr ⟨dX5_step_8, List.forall_mem_cons.mpr ⟨dX5_step_9, List.forall_mem_cons.mpr ⟨dX5_step_12, List.forall_mem_cons.mpr ⟨dX5_step_13, List.forall_mem_cons.mpr ⟨dX5_step_14, List.forall_mem_cons.mpr ⟨dX5_step_68, List.forall_mem_cons.mpr ⟨dX5_step_69, List.forall_mem_cons.mpr ⟨dX5_step_70, List.forall_mem_cons.mpr ⟨dX5_step_73, List.forall_mem_cons.mpr ⟨dX5_step_74, List.forall_mem_cons.mpr ⟨dX5_step_75, List.forall_mem_cons.mpr ⟨dX5_step_76, List.forall_mem_cons.mpr ⟨dX5_step_79, List.forall_mem_cons.mpr ⟨dX5_step_80, List.forall_mem_cons.mpr ⟨dX5_step_81, List.forall_mem_cons.mpr ⟨dX5_step_84, List.forall_mem_cons.mpr ⟨dX5_step_85, List.forall_mem_cons.mpr ⟨dX5_step_86, List.forall_mem_cons.mpr ⟨dX5_step_87, List.forall_mem_cons.mpr ⟨dX5_step_90, List.forall_mem_cons.mpr ⟨dX5_step_91, List.forall_mem_cons.mpr ⟨dX5_step_92, List.forall_mem_cons.mpr ⟨dX5_step_95, List.forall_mem_cons.mpr ⟨dX5_step_96, List.forall_mem_cons.mpr ⟨dX5_step_97, List.forall_mem_cons.mpr ⟨dX5_step_100, List.forall_mem_cons.mpr ⟨dX5_step_101, List.forall_mem_cons.mpr ⟨dX5_step_102, List.forall_mem_cons.mpr ⟨dX5_step_105, List.forall_mem_cons.mpr ⟨dX5_step_106, List.forall_mem_cons.mpr ⟨dX5_step_107, List.forall_mem_cons.mpr ⟨dX5_step_108, List.forall_mem_cons.mpr ⟨dX5_step_111, List.forall_mem_cons.mpr ⟨dX5_step_112, List.forall_mem_cons.mpr ⟨dX5_step_113, List.forall_mem_cons.mpr ⟨dX5_step_116, fun _ h => absurd h List.not_mem_nil⟩⟩⟩⟩⟩⟩⟩⟩⟩⟩⟩⟩⟩⟩⟩⟩⟩⟩⟩⟩⟩⟩⟩⟩⟩⟩⟩⟩⟩⟩⟩⟩⟩⟩⟩⟩⟩⟩⟩⟩
def mi_t67_1 : List (Nat × Instr × Nat) := [(117, .return_, 1), (118, .aload_n 0, 1), (119, .invokevirtual 112, 3), (122, .istore 4, 2), (124, .aload_n 0, 1), (125, .invokevirtual 112, 3), (128, .istore 5, 2), (130, .aload_n 0, 1), (131, .iload_n 2, 1), (132, .sipush 1003, 3), (135, .if_icmp .ne 11, 3), (138, .iload 5, 2), (140, .iload 4, 2), (142, .iadd, 1), (143, .goto 53, 3), (146, .iload_n 2, 1), (147, .sipush 1004, 3), (150, .if_icmp .ne 11, 3), (153, .iload 5, 2), (155, .iload 4, 2), (157, .isub, 1), (158, .goto 38, 3), (161, .iload_n 2, 1), (162, .sipush 1005, 3), (165, .if_icmp .ne 11, 3), (168, .iload 5, 2), (170, .iload 4, 2), (172, .imul, 1), (173, .goto 23, 3), (176, .iload_n 2, 1), (177, .sipush 1006, 3), (180, .if_icmp .ne 11, 3), (183, .iload 5, 2), (185, .iload 4, 2), (187, .ixor, 1), (188, .goto 8, 3), (191, .iload 5, 2), (193, .iload 4, 2), (195, .iand, 1), (196, .invokevirtual 119, 3)]
theorem mi_k67_1 : ∀ q ∈ mi_t67_1, decode cX5_step q.1 = .ok q.2 := List.forall_mem_cons.mpr ⟨dX5_step_117, List.forall_mem_cons.mpr ⟨dX5_step_118, List.forall_mem_cons.mpr ⟨dX5_step_119, List.forall_mem_cons.mpr ⟨dX5_step_122, List.forall_mem_cons.mpr ⟨dX5_step_124, List.forall_mem_cons.mpr ⟨dX5_step_125, List.forall_mem_cons.mpr ⟨dX5_step_128, List.forall_mem_cons.mpr ⟨dX5_step_130, List.forall_mem_cons.mpr ⟨dX5_step_131, List.forall_mem_cons.mpr ⟨dX5_step_132, List.forall_mem_cons.mpr ⟨dX5_step_135, List.forall_mem_cons.mpr ⟨dX5_step_138, List.forall_mem_cons.mpr ⟨dX5_step_140, List.forall_mem_cons.mpr ⟨dX5_step_142, List.forall_mem_cons.mpr ⟨dX5_step_143, List.forall_mem_cons.mpr ⟨dX5_step_146, List.forall_mem_cons.mpr ⟨dX5_step_147, List.forall_mem_cons.mpr ⟨dX5_step_150, List.forall_mem_cons.mpr ⟨dX5_step_153, List.forall_mem_cons.mpr ⟨dX5_step_155, List.forall_mem_cons.mpr ⟨dX5_step_157, List.forall_mem_cons.mpr ⟨dX5_step_158, List.forall_mem_cons.mpr ⟨dX5_step_161, List.forall_mem_cons.mpr ⟨dX5_step_162, List.forall_mem_cons.mpr ⟨dX5_step_165, List.forall_mem_cons.mpr ⟨dX5_step_168, List.forall_mem_cons.mpr ⟨dX5_step_170, List.forall_mem_cons.mpr ⟨dX5_step_172, List.forall_mem_cons.mpr ⟨dX5_step_173, List.forall_mem_cons.mpr ⟨dX5_step_176, List.forall_mem_cons.mpr ⟨dX5_step_177, List.forall_mem_cons.mpr ⟨dX5_step_180, List.forall_mem_cons.mpr ⟨dX5_step_183, List.forall_mem_cons.mpr ⟨dX5_step_185, List.forall_mem_cons.mpr ⟨dX5_step_187, List.forall_mem_cons.mpr ⟨dX5_step_188, List.forall_mem_cons.mpr ⟨dX5_step_191, List.forall_mem_cons.mpr ⟨dX5_step_193, List.forall_mem_cons.mpr ⟨dX5_step_195, List.forall_mem_cons.mpr ⟨dX5_step_196, fun _ h => absurd h List.not_mem_nil⟩⟩⟩⟩⟩⟩⟩⟩⟩⟩⟩⟩⟩⟩⟩⟩⟩⟩⟩⟩⟩⟩⟩⟩⟩⟩⟩⟩⟩⟩⟩⟩⟩⟩⟩⟩⟩⟩⟩⟩
def mi_t67_2 : List (Nat × Instr × Nat) := [(199, .return_, 1)]
theorem mi_k67_2 : ∀ q ∈ mi_t67_2, decode cX5_step q.1 = .ok q.2 := List.forall_mem_cons.mpr ⟨dX5_step_199, fun _ h => absurd h List.not_mem_nil⟩
def mi_t67 : mi_T := [(117, mi_t67_0), (199, mi_t67_1), (1000000, mi_t67_2)]
theorem mi_k67 : mi_dok cX5_step mi_t67 := List.forall_mem_cons.mpr ⟨mi_k67_0, List.forall_mem_cons.mpr ⟨mi_k67_1, List.forall_mem_cons.mpr ⟨mi_k67_2, fun _ h => absurd h List.not_mem_nil⟩⟩⟩
def mi_m67 : mi_M := (mi_t67, 5, none, 6, 1, 3, yX5_step, cX5_step)
def mi_t68_0 : List (Nat × Instr × Nat) := [(0, .iload_n 1, 1), (1, .ifCond .lt 15, 3), (4, .iload_n 1, 1), (5, .aload_n 0, 1), (6, .getfield 123, 3), (9, .if_icmp .ge 7, 3), (12, .iconst 1, 1), (13, .goto 4, 3), (16, .iconst 0, 1), (17, .ireturn, 1)]
theorem mi_k68_0 : ∀ q ∈ mi_t68_0, decode cX5_isDevice q.1 = .ok q.2 := List.forall_mem_cons.mpr ⟨dX5_isDevice_0, List.forall_mem_cons.mpr ⟨dX5_isDevice_1, List.forall_mem_cons.mpr ⟨dX5_isDevice_4, List.forall_mem_cons.mpr ⟨dX5_isDevice_5, List.forall_mem_cons.mpr ⟨dX5_isDevice_6, List.forall_mem_cons.mpr ⟨dX5_isDevice_9, List.forall_mem_cons.mpr ⟨dX5_isDevice_12, List.forall_mem_cons.mpr ⟨dX5_isDevice_13, List.forall_mem_cons.mpr ⟨dX5_isDevice_16, List.forall_mem_cons.mpr ⟨dX5_isDevice_17, fun _ h => absurd h List.not_mem_nil⟩⟩⟩⟩⟩⟩⟩⟩⟩⟩
def mi_t68 : mi_T := [(1000000, mi_t68_0)]
theorem mi_k68 : mi_dok cX5_isDevice mi_t68 := List.forall_mem_cons.mpr ⟨mi_k68_0, fun _ h => absurd h List.not_mem_nil⟩
def mi_m68 : mi_M := (mi_t68, 5, (some .boolean), 2, 1, 1, yX5_isDevice, cX5_isDevice)
def mi_t69_0 : List (Nat × Instr × Nat) := [(0, .iload_n 0, 1), (1, .ifCond .lt 13, 3), (4, .iload_n 0, 1), (5, .bipush 12, 2), (7, .if_icmp .ge 7, 3), (10, .iconst 1, 1), (11, .goto 4, 3), (14, .iconst 0, 1), (15, .ireturn, 1)]
theorem mi_k69_0 : ∀ q ∈ mi_t69_0, decode cX5_isAct q.1 = .ok q.2 := List.forall_mem_cons.mpr ⟨dX5_isAct_0, List.forall_mem_cons.mpr ⟨dX5_isAct_1, List.forall_mem_cons.mpr ⟨dX5_isAct_4, List.forall_mem_cons.mpr ⟨dX5_isAct_5, List.forall_mem_cons.mpr ⟨dX5_isAct_7, List.forall_mem_cons.mpr ⟨dX5_isAct_10, List.forall_mem_cons.mpr ⟨dX5_isAct_11, List.forall_mem_cons.mpr ⟨dX5_isAct_14, List.forall_mem_cons.mpr ⟨dX5_isAct_15, fun _ h => absurd h List.not_mem_nil⟩⟩⟩⟩⟩⟩⟩⟩⟩
def mi_t69 : mi_T := [(1000000, mi_t69_0)]
theorem mi_k69 : mi_dok cX5_isAct mi_t69 := List.forall_mem_cons.mpr ⟨mi_k69_0, fun _ h => absurd h List.not_mem_nil⟩
def mi_m69 : mi_M := (mi_t69, 5, (some .boolean), 1, 0, 1, yX5_isAct, cX5_isAct)
def mi_t70_0 : List (Nat × Instr × Nat) := [(0, .iload_n 0, 1), (1, .ifCond .lt 13, 3), (4, .iload_n 0, 1), (5, .bipush 7, 2), (7, .if_icmp .ge 7, 3), (10, .iconst 1, 1), (11, .goto 4, 3), (14, .iconst 0, 1), (15, .ireturn, 1)]
theorem mi_k70_0 : ∀ q ∈ mi_t70_0, decode cX5_isWay q.1 = .ok q.2 := List.forall_mem_cons.mpr ⟨dX5_isWay_0, List.forall_mem_cons.mpr ⟨dX5_isWay_1, List.forall_mem_cons.mpr ⟨dX5_isWay_4, List.forall_mem_cons.mpr ⟨dX5_isWay_5, List.forall_mem_cons.mpr ⟨dX5_isWay_7, List.forall_mem_cons.mpr ⟨dX5_isWay_10, List.forall_mem_cons.mpr ⟨dX5_isWay_11, List.forall_mem_cons.mpr ⟨dX5_isWay_14, List.forall_mem_cons.mpr ⟨dX5_isWay_15, fun _ h => absurd h List.not_mem_nil⟩⟩⟩⟩⟩⟩⟩⟩⟩
def mi_t70 : mi_T := [(1000000, mi_t70_0)]
theorem mi_k70 : mi_dok cX5_isWay mi_t70 := List.forall_mem_cons.mpr ⟨mi_k70_0, fun _ h => absurd h List.not_mem_nil⟩
def mi_m70 : mi_M := (mi_t70, 5, (some .boolean), 1, 0, 1, yX5_isWay, cX5_isWay)
def mi_t71_0 : List (Nat × Instr × Nat) := [(0, .iload_n 2, 1), (1, .iconst 1, 1), (2, .if_icmp .le 27, 3), (5, .aload_n 0, 1), (6, .getfield 19, 3), (9, .bipush 10, 2), (11, .aload_n 0, 1), (12, .getfield 34, 3), (15, .iload_n 1, 1), (16, .iaload, 1), (17, .iadd, 1), (18, .iaload, 1), (19, .iload_n 2, 1), (20, .iconst 1, 1), (21, .isub, 1), (22, .invokestatic 84, 3), (25, .iand, 1), (26, .ifCond .eq 7, 3), (29, .iconst 1, 1), (30, .goto 4, 3), (33, .iconst 0, 1), (34, .ireturn, 1)]
theorem mi_k71_0 : ∀ q ∈ mi_t71_0, decode cX5_isAble q.1 = .ok q.2 := List.forall_mem_cons.mpr ⟨dX5_isAble_0, List.forall_mem_cons.mpr ⟨dX5_isAble_1, List.forall_mem_cons.mpr ⟨dX5_isAble_2, List.forall_mem_cons.mpr ⟨dX5_isAble_5, List.forall_mem_cons.mpr ⟨dX5_isAble_6, List.forall_mem_cons.mpr ⟨dX5_isAble_9, List.forall_mem_cons.mpr ⟨dX5_isAble_11, List.forall_mem_cons.mpr ⟨dX5_isAble_12, List.forall_mem_cons.mpr ⟨dX5_isAble_15, List.forall_mem_cons.mpr ⟨dX5_isAble_16, List.forall_mem_cons.mpr ⟨dX5_isAble_17, List.forall_mem_cons.mpr ⟨dX5_isAble_18, List.forall_mem_cons.mpr ⟨dX5_isAble_19, List.forall_mem_cons.mpr ⟨dX5_isAble_20, List.forall_mem_cons.mpr ⟨dX5_isAble_21, List.forall_mem_cons.mpr ⟨dX5_isAble_22, List.forall_mem_cons.mpr ⟨dX5_isAble_25, List.forall_mem_cons.mpr ⟨dX5_isAble_26, List.forall_mem_cons.mpr ⟨dX5_isAble_29, List.forall_mem_cons.mpr ⟨dX5_isAble_30, List.forall_mem_cons.mpr ⟨dX5_isAble_33, List.forall_mem_cons.mpr ⟨dX5_isAble_34, fun _ h => absurd h List.not_mem_nil⟩⟩⟩⟩⟩⟩⟩⟩⟩⟩⟩⟩⟩⟩⟩⟩⟩⟩⟩⟩⟩⟩
def mi_t71 : mi_T := [(1000000, mi_t71_0)]
theorem mi_k71 : mi_dok cX5_isAble mi_t71 := List.forall_mem_cons.mpr ⟨mi_k71_0, fun _ h => absurd h List.not_mem_nil⟩
def mi_m71 : mi_M := (mi_t71, 5, (some .boolean), 3, 1, 2, yX5_isAble, cX5_isAble)
def mi_t72_0 : List (Nat × Instr × Nat) := [(0, .iload_n 2, 1), (1, .ifCond .ne 17, 3), (4, .aload_n 0, 1), (5, .getfield 31, 3), (8, .aload_n 0, 1), (9, .getfield 34, 3), (12, .iload_n 3, 1), (13, .iaload, 1), (14, .iaload, 1), (15, .goto 9, 3), (18, .aload_n 0, 1), (19, .getfield 28, 3), (22, .iload_n 2, 1), (23, .iaload, 1), (24, .iload_n 1, 1), (25, .invokestatic 84, 3), (28, .iand, 1), (29, .ifCond .eq 7, 3), (32, .iconst 1, 1), (33, .goto 4, 3), (36, .iconst 0, 1), (37, .ireturn, 1)]
theorem mi_k72_0 : ∀ q ∈ mi_t72_0, decode cX5_isOf q.1 = .ok q.2 := List.forall_mem_cons.mpr ⟨dX5_isOf_0, List.forall_mem_cons.mpr ⟨dX5_isOf_1, List.forall_mem_cons.mpr ⟨dX5_isOf_4, List.forall_mem_cons.mpr ⟨dX5_isOf_5, List.forall_mem_cons.mpr ⟨dX5_isOf_8, List.forall_mem_cons.mpr ⟨dX5_isOf_9, List.forall_mem_cons.mpr ⟨dX5_isOf_12, List.forall_mem_cons.mpr ⟨dX5_isOf_13, List.forall_mem_cons.mpr ⟨dX5_isOf_14, List.forall_mem_cons.mpr ⟨dX5_isOf_15, List.forall_mem_cons.mpr ⟨dX5_isOf_18, List.forall_mem_cons.mpr ⟨dX5_isOf_19, List.forall_mem_cons.mpr ⟨dX5_isOf_22, List.forall_mem_cons.mpr ⟨dX5_isOf_23, List.forall_mem_cons.mpr ⟨dX5_isOf_24, List.forall_mem_cons.mpr ⟨dX5_isOf_25, List.forall_mem_cons.mpr ⟨dX5_isOf_28, List.forall_mem_cons.mpr ⟨dX5_isOf_29, List.forall_mem_cons.mpr ⟨dX5_isOf_32, List.forall_mem_cons.mpr ⟨dX5_isOf_33, List.forall_mem_cons.mpr ⟨dX5_isOf_36, List.forall_mem_cons.mpr ⟨dX5_isOf_37, fun _ h => absurd h List.not_mem_nil⟩⟩⟩⟩⟩⟩⟩⟩⟩⟩⟩⟩⟩⟩⟩⟩⟩⟩⟩⟩⟩⟩
def mi_t72 : mi_T := [(1000000, mi_t72_0)]
theorem mi_k72 : mi_dok cX5_isOf mi_t72 := List.forall_mem_cons.mpr ⟨mi_k72_0, fun _ h => absurd h List.not_mem_nil⟩
def mi_m72 : mi_M := (mi_t72, 5, (some .boolean), 4, 1, 3, yX5_isOf, cX5_isOf)
def mi_t73_0 : List (Nat × Instr × Nat) := [(0, .aload_n 0, 1), (1, .iload_n 1, 1), (2, .putfield 126, 3), (5, .iconst 0, 1), (6, .ireturn, 1)]
theorem mi_k73_0 : ∀ q ∈ mi_t73_0, decode cX5_refused q.1 = .ok q.2 := List.forall_mem_cons.mpr ⟨dX5_refused_0, List.forall_mem_cons.mpr ⟨dX5_refused_1, List.forall_mem_cons.mpr ⟨dX5_refused_2, List.forall_mem_cons.mpr ⟨dX5_refused_5, List.forall_mem_cons.mpr ⟨dX5_refused_6, fun _ h => absurd h List.not_mem_nil⟩⟩⟩⟩⟩
def mi_t73 : mi_T := [(1000000, mi_t73_0)]
theorem mi_k73 : mi_dok cX5_refused mi_t73 := List.forall_mem_cons.mpr ⟨mi_k73_0, fun _ h => absurd h List.not_mem_nil⟩
def mi_m73 : mi_M := (mi_t73, 5, (some .int), 2, 1, 1, yX5_refused, cX5_refused)
def mi_t74_0 : List (Nat × Instr × Nat) := [(0, .aload_n 0, 1), (1, .iload_n 1, 1), (2, .invokevirtual 129, 3), (5, .ifCond .eq 17, 3), (8, .iload_n 2, 1), (9, .invokestatic 133, 3), (12, .ifCond .eq 10, 3), (15, .iload_n 3, 1), (16, .invokestatic 136, 3), (19, .ifCond .ne 5, 3), (22, .iconst 1, 1), (23, .ireturn, 1), (24, .aload_n 0, 1), (25, .iload_n 1, 1), (26, .iload_n 3, 1), (27, .invokevirtual 139, 3), (30, .ifCond .ne 5, 3), (33, .iconst 2, 1), (34, .ireturn, 1), (35, .aload_n 0, 1), (36, .iload_n 2, 1), (37, .iload_n 3, 1), (38, .iload_n 1, 1), (39, .invokevirtual 143, 3), (42, .ifCond .eq 7, 3), (45, .iconst 0, 1), (46, .goto 4, 3), (49, .iconst 3, 1), (50, .ireturn, 1)]
theorem mi_k74_0 : ∀ q ∈ mi_t74_0, decode cX5_why q.1 = .ok q.2 := List.forall_mem_cons.mpr ⟨dX5_why_0, List.forall_mem_cons.mpr ⟨dX5_why_1, List.forall_mem_cons.mpr ⟨dX5_why_2, List.forall_mem_cons.mpr ⟨dX5_why_5, List.forall_mem_cons.mpr ⟨dX5_why_8, List.forall_mem_cons.mpr ⟨dX5_why_9, List.forall_mem_cons.mpr ⟨dX5_why_12, List.forall_mem_cons.mpr ⟨dX5_why_15, List.forall_mem_cons.mpr ⟨dX5_why_16, List.forall_mem_cons.mpr ⟨dX5_why_19, List.forall_mem_cons.mpr ⟨dX5_why_22, List.forall_mem_cons.mpr ⟨dX5_why_23, List.forall_mem_cons.mpr ⟨dX5_why_24, List.forall_mem_cons.mpr ⟨dX5_why_25, List.forall_mem_cons.mpr ⟨dX5_why_26, List.forall_mem_cons.mpr ⟨dX5_why_27, List.forall_mem_cons.mpr ⟨dX5_why_30, List.forall_mem_cons.mpr ⟨dX5_why_33, List.forall_mem_cons.mpr ⟨dX5_why_34, List.forall_mem_cons.mpr ⟨dX5_why_35, List.forall_mem_cons.mpr ⟨dX5_why_36, List.forall_mem_cons.mpr ⟨dX5_why_37, List.forall_mem_cons.mpr ⟨dX5_why_38, List.forall_mem_cons.mpr ⟨dX5_why_39, List.forall_mem_cons.mpr ⟨dX5_why_42, List.forall_mem_cons.mpr ⟨dX5_why_45, List.forall_mem_cons.mpr ⟨dX5_why_46, List.forall_mem_cons.mpr ⟨dX5_why_49, List.forall_mem_cons.mpr ⟨dX5_why_50, fun _ h => absurd h List.not_mem_nil⟩⟩⟩⟩⟩⟩⟩⟩⟩⟩⟩⟩⟩⟩⟩⟩⟩⟩⟩⟩⟩⟩⟩⟩⟩⟩⟩⟩⟩
def mi_t74 : mi_T := [(1000000, mi_t74_0)]
theorem mi_k74 : mi_dok cX5_why mi_t74 := List.forall_mem_cons.mpr ⟨mi_k74_0, fun _ h => absurd h List.not_mem_nil⟩
def mi_m74 : mi_M := (mi_t74, 5, (some .int), 4, 1, 3, yX5_why, cX5_why)
def mi_t75_0 : List (Nat × Instr × Nat) := [(0, .aload_n 0, 1), (1, .iconst 0, 1), (2, .putfield 126, 3), (5, .aload_n 0, 1), (6, .iconst 0, 1), (7, .putfield 102, 3), (10, .return_, 1)]
theorem mi_k75_0 : ∀ q ∈ mi_t75_0, decode cX5_begin q.1 = .ok q.2 := List.forall_mem_cons.mpr ⟨dX5_begin_0, List.forall_mem_cons.mpr ⟨dX5_begin_1, List.forall_mem_cons.mpr ⟨dX5_begin_2, List.forall_mem_cons.mpr ⟨dX5_begin_5, List.forall_mem_cons.mpr ⟨dX5_begin_6, List.forall_mem_cons.mpr ⟨dX5_begin_7, List.forall_mem_cons.mpr ⟨dX5_begin_10, fun _ h => absurd h List.not_mem_nil⟩⟩⟩⟩⟩⟩⟩
def mi_t75 : mi_T := [(1000000, mi_t75_0)]
theorem mi_k75 : mi_dok cX5_begin mi_t75 := List.forall_mem_cons.mpr ⟨mi_k75_0, fun _ h => absurd h List.not_mem_nil⟩
def mi_m75 : mi_M := (mi_t75, 5, none, 1, 1, 0, yX5_begin, cX5_begin)
def mi_t76_0 : List (Nat × Instr × Nat) := [(0, .aload_n 0, 1), (1, .iload_n 1, 1), (2, .ifCond .lt 9, 3), (5, .iload_n 1, 1), (6, .bipush 11, 2), (8, .if_icmp .lt 7, 3), (11, .iconst 1, 1), (12, .goto 18, 3), (15, .aload_n 0, 1), (16, .getfield 123, 3), (19, .sipush 300, 3), (22, .if_icmp .ne 7, 3), (25, .iconst 5, 1), (26, .goto 4, 3), (29, .iconst 0, 1), (30, .putfield 126, 3), (33, .aload_n 0, 1), (34, .getfield 126, 3), (37, .ifCond .eq 5, 3), (40, .iconst (-1), 1), (41, .ireturn, 1), (42, .aload_n 0, 1), (43, .getfield 34, 3), (46, .aload_n 0, 1), (47, .getfield 123, 3), (50, .iload_n 1, 1), (51, .iastore, 1), (52, .aload_n 0, 1), (53, .getfield 37, 3), (56, .aload_n 0, 1), (57, .getfield 123, 3), (60, .iload_n 2, 1), (61, .iastore, 1), (62, .aload_n 0, 1), (63, .dup, 1), (64, .getfield 123, 3), (67, .iconst 1, 1), (68, .iadd, 1), (69, .putfield 123, 3), (72, .aload_n 0, 1)]
theorem mi_k76_0 : ∀ q ∈ mi_t76_0, decode cX5_device q.1 = .ok q.2 := List.forall_mem_cons.mpr ⟨dX5_device_0, List.forall_mem_cons.mpr ⟨dX5_device_1, List.forall_mem_cons.mpr ⟨dX5_device_2, List.forall_mem_cons.mpr ⟨dX5_device_5, List.forall_mem_cons.mpr ⟨dX5_device_6, List.forall_mem_cons.mpr ⟨dX5_device_8, List.forall_mem_cons.mpr ⟨dX5_device_11, List.forall_mem_cons.mpr ⟨dX5_device_12, List.forall_mem_cons.mpr ⟨dX5_device_15, List.forall_mem_cons.mpr ⟨dX5_device_16, List.forall_mem_cons.mpr ⟨dX5_device_19, List.forall_mem_cons.mpr ⟨dX5_device_22, List.forall_mem_cons.mpr ⟨dX5_device_25, List.forall_mem_cons.mpr ⟨dX5_device_26, List.forall_mem_cons.mpr ⟨dX5_device_29, List.forall_mem_cons.mpr ⟨dX5_device_30, List.forall_mem_cons.mpr ⟨dX5_device_33, List.forall_mem_cons.mpr ⟨dX5_device_34, List.forall_mem_cons.mpr ⟨dX5_device_37, List.forall_mem_cons.mpr ⟨dX5_device_40, List.forall_mem_cons.mpr ⟨dX5_device_41, List.forall_mem_cons.mpr ⟨dX5_device_42, List.forall_mem_cons.mpr ⟨dX5_device_43, List.forall_mem_cons.mpr ⟨dX5_device_46, List.forall_mem_cons.mpr ⟨dX5_device_47, List.forall_mem_cons.mpr ⟨dX5_device_50, List.forall_mem_cons.mpr ⟨dX5_device_51, List.forall_mem_cons.mpr ⟨dX5_device_52, List.forall_mem_cons.mpr ⟨dX5_device_53, List.forall_mem_cons.mpr ⟨dX5_device_56, List.forall_mem_cons.mpr ⟨dX5_device_57, List.forall_mem_cons.mpr ⟨dX5_device_60, List.forall_mem_cons.mpr ⟨dX5_device_61, List.forall_mem_cons.mpr ⟨dX5_device_62, List.forall_mem_cons.mpr ⟨dX5_device_63, List.forall_mem_cons.mpr ⟨dX5_device_64, List.forall_mem_cons.mpr ⟨dX5_device_67, List.forall_mem_cons.mpr ⟨dX5_device_68, List.forall_mem_cons.mpr ⟨dX5_device_69, List.forall_mem_cons.mpr ⟨dX5_device_72, fun _ h => absurd h List.not_mem_nil⟩⟩⟩⟩⟩⟩⟩⟩⟩⟩⟩⟩⟩⟩⟩⟩⟩⟩⟩⟩⟩⟩⟩⟩⟩⟩⟩⟩⟩⟩⟩⟩⟩⟩⟩⟩⟩⟩⟩⟩
def mi_t76_1 : List (Nat × Instr × Nat) := [(73, .getfield 123, 3), (76, .iconst 1, 1), (77, .isub, 1), (78, .ireturn, 1)]
theorem mi_k76_1 : ∀ q ∈ mi_t76_1, decode cX5_device q.1 = .ok q.2 := List.forall_mem_cons.mpr ⟨dX5_device_73, List.forall_mem_cons.mpr ⟨dX5_device_76, List.forall_mem_cons.mpr ⟨dX5_device_77, List.forall_mem_cons.mpr ⟨dX5_device_78, fun _ h => absurd h List.not_mem_nil⟩⟩⟩⟩
def mi_t76 : mi_T := [(73, mi_t76_0), (1000000, mi_t76_1)]
theorem mi_k76 : mi_dok cX5_device mi_t76 := List.forall_mem_cons.mpr ⟨mi_k76_0, List.forall_mem_cons.mpr ⟨mi_k76_1, fun _ h => absurd h List.not_mem_nil⟩⟩
def mi_m76 : mi_M := (mi_t76, 5, (some .int), 3, 1, 2, yX5_device, cX5_device)
def mi_t77_0 : List (Nat × Instr × Nat) := [(0, .aload_n 0, 1), (1, .iload_n 1, 1), (2, .iload_n 2, 1), (3, .iload_n 3, 1), (4, .invokevirtual 147, 3), (7, .istore 5, 2), (9, .iload 5, 2), (11, .ifCond .eq 10, 3), (14, .aload_n 0, 1), (15, .iload 5, 2), (17, .invokevirtual 151, 3), (20, .ireturn, 1), (21, .aload_n 0, 1), (22, .invokevirtual 154, 3), (25, .aload_n 0, 1), (26, .iload_n 1, 1), (27, .iload_n 2, 1), (28, .iload 4, 2), (30, .invokevirtual 157, 3), (33, .ireturn, 1)]
theorem mi_k77_0 : ∀ q ∈ mi_t77_0, decode cX5_call q.1 = .ok q.2 := List.forall_mem_cons.mpr ⟨dX5_call_0, List.forall_mem_cons.mpr ⟨dX5_call_1, List.forall_mem_cons.mpr ⟨dX5_call_2, List.forall_mem_cons.mpr ⟨dX5_call_3, List.forall_mem_cons.mpr ⟨dX5_call_4, List.forall_mem_cons.mpr ⟨dX5_call_7, List.forall_mem_cons.mpr ⟨dX5_call_9, List.forall_mem_cons.mpr ⟨dX5_call_11, List.forall_mem_cons.mpr ⟨dX5_call_14, List.forall_mem_cons.mpr ⟨dX5_call_15, List.forall_mem_cons.mpr ⟨dX5_call_17, List.forall_mem_cons.mpr ⟨dX5_call_20, List.forall_mem_cons.mpr ⟨dX5_call_21, List.forall_mem_cons.mpr ⟨dX5_call_22, List.forall_mem_cons.mpr ⟨dX5_call_25, List.forall_mem_cons.mpr ⟨dX5_call_26, List.forall_mem_cons.mpr ⟨dX5_call_27, List.forall_mem_cons.mpr ⟨dX5_call_28, List.forall_mem_cons.mpr ⟨dX5_call_30, List.forall_mem_cons.mpr ⟨dX5_call_33, fun _ h => absurd h List.not_mem_nil⟩⟩⟩⟩⟩⟩⟩⟩⟩⟩⟩⟩⟩⟩⟩⟩⟩⟩⟩⟩
def mi_t77 : mi_T := [(1000000, mi_t77_0)]
theorem mi_k77 : mi_dok cX5_call mi_t77 := List.forall_mem_cons.mpr ⟨mi_k77_0, fun _ h => absurd h List.not_mem_nil⟩
def mi_m77 : mi_M := (mi_t77, 5, (some .int), 6, 1, 4, yX5_call, cX5_call)
def mi_t78_0 : List (Nat × Instr × Nat) := [(0, .iload_n 1, 1), (1, .invokestatic 133, 3), (4, .ifCond .eq 10, 3), (7, .iload_n 2, 1), (8, .invokestatic 136, 3), (11, .ifCond .ne 9, 3), (14, .aload_n 0, 1), (15, .iconst 1, 1), (16, .invokevirtual 151, 3), (19, .ireturn, 1), (20, .iload_n 2, 1), (21, .ifCond .eq 23, 3), (24, .aload_n 0, 1), (25, .getfield 28, 3), (28, .iload_n 2, 1), (29, .iaload, 1), (30, .iload_n 1, 1), (31, .invokestatic 84, 3), (34, .iand, 1), (35, .ifCond .ne 9, 3), (38, .aload_n 0, 1), (39, .iconst 3, 1), (40, .invokevirtual 151, 3), (43, .ireturn, 1), (44, .aload_n 0, 1), (45, .invokevirtual 154, 3), (48, .iconst 0, 1), (49, .istore 4, 2), (51, .iconst 0, 1), (52, .istore 5, 2), (54, .iload 5, 2), (56, .aload_n 0, 1), (57, .getfield 123, 3), (60, .if_icmp .ge 43, 3), (63, .aload_n 0, 1), (64, .iload 5, 2), (66, .iload_n 2, 1), (67, .invokevirtual 139, 3), (70, .ifCond .eq 27, 3), (73, .aload_n 0, 1)]
theorem mi_k78_0 : ∀ q ∈ mi_t78_0, decode cX5_every q.1 = .ok q.2 := List.forall_mem_cons.mpr ⟨dX5_every_0, List.forall_mem_cons.mpr ⟨dX5_every_1, List.forall_mem_cons.mpr ⟨dX5_every_4, List.forall_mem_cons.mpr ⟨dX5_every_7, List.forall_mem_cons.mpr ⟨dX5_every_8, List.forall_mem_cons.mpr ⟨dX5_every_11, List.forall_mem_cons.mpr ⟨dX5_every_14, List.forall_mem_cons.mpr ⟨dX5_every_15, List.forall_mem_cons.mpr ⟨dX5_every_16, List.forall_mem_cons.mpr ⟨dX5_every_19, List.forall_mem_cons.mpr ⟨dX5_every_20, List.forall_mem_cons.mpr ⟨dX5_every_21, List.forall_mem_cons.mpr ⟨dX5_every_24, List.forall_mem_cons.mpr ⟨dX5_every_25, List.forall_mem_cons.mpr ⟨dX5_every_28, List.forall_mem_cons.mpr ⟨dX5_every_29, List.forall_mem_cons.mpr ⟨dX5_every_30, List.forall_mem_cons.mpr ⟨dX5_every_31, List.forall_mem_cons.mpr ⟨dX5_every_34, List.forall_mem_cons.mpr ⟨dX5_every_35, List.forall_mem_cons.mpr ⟨dX5_every_38, List.forall_mem_cons.mpr ⟨dX5_every_39, List.forall_mem_cons.mpr ⟨dX5_every_40, List.forall_mem_cons.mpr ⟨dX5_every_43, List.forall_mem_cons.mpr ⟨dX5_every_44, List.forall_mem_cons.mpr ⟨dX5_every_45, List.forall_mem_cons.mpr ⟨dX5_every_48, List.forall_mem_cons.mpr ⟨dX5_every_49, List.forall_mem_cons.mpr ⟨dX5_every_51, List.forall_mem_cons.mpr ⟨dX5_every_52, List.forall_mem_cons.mpr ⟨dX5_every_54, List.forall_mem_cons.mpr ⟨dX5_every_56, List.forall_mem_cons.mpr ⟨dX5_every_57, List.forall_mem_cons.mpr ⟨dX5_every_60, List.forall_mem_cons.mpr ⟨dX5_every_63, List.forall_mem_cons.mpr ⟨dX5_every_64, List.forall_mem_cons.mpr ⟨dX5_every_66, List.forall_mem_cons.mpr ⟨dX5_every_67, List.forall_mem_cons.mpr ⟨dX5_every_70, List.forall_mem_cons.mpr ⟨dX5_every_73, fun _ h => absurd h List.not_mem_nil⟩⟩⟩⟩⟩⟩⟩⟩⟩⟩⟩⟩⟩⟩⟩⟩⟩⟩⟩⟩⟩⟩⟩⟩⟩⟩⟩⟩⟩⟩⟩⟩⟩⟩⟩⟩⟩⟩⟩⟩
def mi_t78_1 : List (Nat × Instr × Nat) := [(74, .iload_n 1, 1), (75, .iload_n 2, 1), (76, .iload 5, 2), (78, .invokevirtual 143, 3), (81, .ifCond .eq 16, 3), (84, .iload 4, 2), (86, .aload_n 0, 1), (87, .iload 5, 2), (89, .iload_n 1, 1), (90, .iload_n 3, 1), (91, .invokevirtual 157, 3), (94, .iadd, 1), (95, .istore 4, 2), (97, .iinc 5 1, 3), (100, .goto (-46), 3), (103, .iload 4, 2), (105, .ireturn, 1)]
theorem mi_k78_1 : ∀ q ∈ mi_t78_1, decode cX5_every q.1 = .ok q.2 := List.forall_mem_cons.mpr ⟨dX5_every_74, List.forall_mem_cons.mpr ⟨dX5_every_75, List.forall_mem_cons.mpr ⟨dX5_every_76, List.forall_mem_cons.mpr ⟨dX5_every_78, List.forall_mem_cons.mpr ⟨dX5_every_81, List.forall_mem_cons.mpr ⟨dX5_every_84, List.forall_mem_cons.mpr ⟨dX5_every_86, List.forall_mem_cons.mpr ⟨dX5_every_87, List.forall_mem_cons.mpr ⟨dX5_every_89, List.forall_mem_cons.mpr ⟨dX5_every_90, List.forall_mem_cons.mpr ⟨dX5_every_91, List.forall_mem_cons.mpr ⟨dX5_every_94, List.forall_mem_cons.mpr ⟨dX5_every_95, List.forall_mem_cons.mpr ⟨dX5_every_97, List.forall_mem_cons.mpr ⟨dX5_every_100, List.forall_mem_cons.mpr ⟨dX5_every_103, List.forall_mem_cons.mpr ⟨dX5_every_105, fun _ h => absurd h List.not_mem_nil⟩⟩⟩⟩⟩⟩⟩⟩⟩⟩⟩⟩⟩⟩⟩⟩⟩
def mi_t78 : mi_T := [(74, mi_t78_0), (1000000, mi_t78_1)]
theorem mi_k78 : mi_dok cX5_every mi_t78 := List.forall_mem_cons.mpr ⟨mi_k78_0, List.forall_mem_cons.mpr ⟨mi_k78_1, fun _ h => absurd h List.not_mem_nil⟩⟩
def mi_m78 : mi_M := (mi_t78, 5, (some .int), 6, 1, 3, yX5_every, cX5_every)
def mi_t79_0 : List (Nat × Instr × Nat) := [(0, .aload_n 0, 1), (1, .iload_n 1, 1), (2, .invokevirtual 129, 3), (5, .ifCond .ne 9, 3), (8, .aload_n 0, 1), (9, .iconst 1, 1), (10, .invokevirtual 151, 3), (13, .ireturn, 1), (14, .aload_n 0, 1), (15, .invokevirtual 154, 3), (18, .iconst 0, 1), (19, .istore_n 3, 1), (20, .bipush 24, 2), (22, .istore 4, 2), (24, .iload 4, 2), (26, .ifCond .lt 65, 3), (29, .iload_n 2, 1), (30, .iload 4, 2), (32, .ishr, 1), (33, .sipush 255, 3), (36, .iand, 1), (37, .istore 5, 2), (39, .aload_n 0, 1), (40, .iload_n 1, 1), (41, .iload 5, 2), (43, .bipush 15, 2), (45, .iand, 1), (46, .iload 5, 2), (48, .iconst 4, 1), (49, .ishr, 1), (50, .bipush 7, 2), (52, .iand, 1), (53, .invokevirtual 147, 3), (56, .ifCond .ne 29, 3), (59, .iload_n 3, 1), (60, .aload_n 0, 1), (61, .iload_n 1, 1), (62, .iload 5, 2), (64, .bipush 15, 2), (66, .iand, 1)]
theorem mi_k79_0 : ∀ q ∈ mi_t79_0, decode cX5_feed q.1 = .ok q.2 := List.forall_mem_cons.mpr ⟨dX5_feed_0, List.forall_mem_cons.mpr ⟨dX5_feed_1, List.forall_mem_cons.mpr ⟨dX5_feed_2, List.forall_mem_cons.mpr ⟨dX5_feed_5, List.forall_mem_cons.mpr ⟨dX5_feed_8, List.forall_mem_cons.mpr ⟨dX5_feed_9, List.forall_mem_cons.mpr ⟨dX5_feed_10, List.forall_mem_cons.mpr ⟨dX5_feed_13, List.forall_mem_cons.mpr ⟨dX5_feed_14, List.forall_mem_cons.mpr ⟨dX5_feed_15, List.forall_mem_cons.mpr ⟨dX5_feed_18, List.forall_mem_cons.mpr ⟨dX5_feed_19, List.forall_mem_cons.mpr ⟨dX5_feed_20, List.forall_mem_cons.mpr ⟨dX5_feed_22, List.forall_mem_cons.mpr ⟨dX5_feed_24, List.forall_mem_cons.mpr ⟨dX5_feed_26, List.forall_mem_cons.mpr ⟨dX5_feed_29, List.forall_mem_cons.mpr ⟨dX5_feed_30, List.forall_mem_cons.mpr ⟨dX5_feed_32, List.forall_mem_cons.mpr ⟨dX5_feed_33, List.forall_mem_cons.mpr ⟨dX5_feed_36, List.forall_mem_cons.mpr ⟨dX5_feed_37, List.forall_mem_cons.mpr ⟨dX5_feed_39, List.forall_mem_cons.mpr ⟨dX5_feed_40, List.forall_mem_cons.mpr ⟨dX5_feed_41, List.forall_mem_cons.mpr ⟨dX5_feed_43, List.forall_mem_cons.mpr ⟨dX5_feed_45, List.forall_mem_cons.mpr ⟨dX5_feed_46, List.forall_mem_cons.mpr ⟨dX5_feed_48, List.forall_mem_cons.mpr ⟨dX5_feed_49, List.forall_mem_cons.mpr ⟨dX5_feed_50, List.forall_mem_cons.mpr ⟨dX5_feed_52, List.forall_mem_cons.mpr ⟨dX5_feed_53, List.forall_mem_cons.mpr ⟨dX5_feed_56, List.forall_mem_cons.mpr ⟨dX5_feed_59, List.forall_mem_cons.mpr ⟨dX5_feed_60, List.forall_mem_cons.mpr ⟨dX5_feed_61, List.forall_mem_cons.mpr ⟨dX5_feed_62, List.forall_mem_cons.mpr ⟨dX5_feed_64, List.forall_mem_cons.mpr ⟨dX5_feed_66, fun _ h => absurd h List.not_mem_nil⟩⟩⟩⟩⟩⟩⟩⟩⟩⟩⟩⟩⟩⟩⟩⟩⟩⟩⟩⟩⟩⟩⟩⟩⟩⟩⟩⟩⟩⟩⟩⟩⟩⟩⟩⟩⟩⟩⟩⟩
def mi_t79_1 : List (Nat × Instr × Nat) := [(67, .iload 5, 2), (69, .bipush 127, 2), (71, .if_icmp .le 8, 3), (74, .iload_n 3, 1), (75, .ineg, 1), (76, .goto 4, 3), (79, .iload_n 3, 1), (80, .invokevirtual 157, 3), (83, .iadd, 1), (84, .istore_n 3, 1), (85, .iinc 4 (-8), 3), (88, .goto (-64), 3), (91, .iload_n 3, 1), (92, .ireturn, 1)]
theorem mi_k79_1 : ∀ q ∈ mi_t79_1, decode cX5_feed q.1 = .ok q.2 := List.forall_mem_cons.mpr ⟨dX5_feed_67, List.forall_mem_cons.mpr ⟨dX5_feed_69, List.forall_mem_cons.mpr ⟨dX5_feed_71, List.forall_mem_cons.mpr ⟨dX5_feed_74, List.forall_mem_cons.mpr ⟨dX5_feed_75, List.forall_mem_cons.mpr ⟨dX5_feed_76, List.forall_mem_cons.mpr ⟨dX5_feed_79, List.forall_mem_cons.mpr ⟨dX5_feed_80, List.forall_mem_cons.mpr ⟨dX5_feed_83, List.forall_mem_cons.mpr ⟨dX5_feed_84, List.forall_mem_cons.mpr ⟨dX5_feed_85, List.forall_mem_cons.mpr ⟨dX5_feed_88, List.forall_mem_cons.mpr ⟨dX5_feed_91, List.forall_mem_cons.mpr ⟨dX5_feed_92, fun _ h => absurd h List.not_mem_nil⟩⟩⟩⟩⟩⟩⟩⟩⟩⟩⟩⟩⟩⟩
def mi_t79 : mi_T := [(67, mi_t79_0), (1000000, mi_t79_1)]
theorem mi_k79 : mi_dok cX5_feed mi_t79 := List.forall_mem_cons.mpr ⟨mi_k79_0, List.forall_mem_cons.mpr ⟨mi_k79_1, fun _ h => absurd h List.not_mem_nil⟩⟩
def mi_m79 : mi_M := (mi_t79, 5, (some .int), 6, 1, 2, yX5_feed, cX5_feed)
def mi_t80_0 : List (Nat × Instr × Nat) := [(0, .aload_n 0, 1), (1, .aload_n 0, 1), (2, .iload_n 1, 1), (3, .invokevirtual 129, 3), (6, .ifCond .eq 11, 3), (9, .aload_n 0, 1), (10, .iload_n 2, 1), (11, .invokevirtual 129, 3), (14, .ifCond .ne 7, 3), (17, .iconst 1, 1), (18, .goto 18, 3), (21, .aload_n 0, 1), (22, .getfield 160, 3), (25, .sipush 400, 3), (28, .if_icmp .ne 7, 3), (31, .iconst 5, 1), (32, .goto 4, 3), (35, .iconst 0, 1), (36, .putfield 126, 3), (39, .aload_n 0, 1), (40, .getfield 126, 3), (43, .ifCond .eq 5, 3), (46, .iconst (-1), 1), (47, .ireturn, 1), (48, .aload_n 0, 1), (49, .getfield 46, 3), (52, .aload_n 0, 1), (53, .getfield 160, 3), (56, .iload_n 1, 1), (57, .iastore, 1), (58, .aload_n 0, 1), (59, .getfield 49, 3), (62, .aload_n 0, 1), (63, .getfield 160, 3), (66, .iload_n 2, 1), (67, .iastore, 1), (68, .aload_n 0, 1), (69, .dup, 1), (70, .getfield 160, 3), (73, .iconst 1, 1)]
theorem mi_k80_0 : ∀ q ∈ mi_t80_0, decode cX5_link q.1 = .ok q.2 := List.forall_mem_cons.mpr ⟨dX5_link_0, List.forall_mem_cons.mpr ⟨dX5_link_1, List.forall_mem_cons.mpr ⟨dX5_link_2, List.forall_mem_cons.mpr ⟨dX5_link_3, List.forall_mem_cons.mpr ⟨dX5_link_6, List.forall_mem_cons.mpr ⟨dX5_link_9, List.forall_mem_cons.mpr ⟨dX5_link_10, List.forall_mem_cons.mpr ⟨dX5_link_11, List.forall_mem_cons.mpr ⟨dX5_link_14, List.forall_mem_cons.mpr ⟨dX5_link_17, List.forall_mem_cons.mpr ⟨dX5_link_18, List.forall_mem_cons.mpr ⟨dX5_link_21, List.forall_mem_cons.mpr ⟨dX5_link_22, List.forall_mem_cons.mpr ⟨dX5_link_25, List.forall_mem_cons.mpr ⟨dX5_link_28, List.forall_mem_cons.mpr ⟨dX5_link_31, List.forall_mem_cons.mpr ⟨dX5_link_32, List.forall_mem_cons.mpr ⟨dX5_link_35, List.forall_mem_cons.mpr ⟨dX5_link_36, List.forall_mem_cons.mpr ⟨dX5_link_39, List.forall_mem_cons.mpr ⟨dX5_link_40, List.forall_mem_cons.mpr ⟨dX5_link_43, List.forall_mem_cons.mpr ⟨dX5_link_46, List.forall_mem_cons.mpr ⟨dX5_link_47, List.forall_mem_cons.mpr ⟨dX5_link_48, List.forall_mem_cons.mpr ⟨dX5_link_49, List.forall_mem_cons.mpr ⟨dX5_link_52, List.forall_mem_cons.mpr ⟨dX5_link_53, List.forall_mem_cons.mpr ⟨dX5_link_56, List.forall_mem_cons.mpr ⟨dX5_link_57, List.forall_mem_cons.mpr ⟨dX5_link_58, List.forall_mem_cons.mpr ⟨dX5_link_59, List.forall_mem_cons.mpr ⟨dX5_link_62, List.forall_mem_cons.mpr ⟨dX5_link_63, List.forall_mem_cons.mpr ⟨dX5_link_66, List.forall_mem_cons.mpr ⟨dX5_link_67, List.forall_mem_cons.mpr ⟨dX5_link_68, List.forall_mem_cons.mpr ⟨dX5_link_69, List.forall_mem_cons.mpr ⟨dX5_link_70, List.forall_mem_cons.mpr ⟨dX5_link_73, fun _ h => absurd h List.not_mem_nil⟩⟩⟩⟩⟩⟩⟩⟩⟩⟩⟩⟩⟩⟩⟩⟩⟩⟩⟩⟩⟩⟩⟩⟩⟩⟩⟩⟩⟩⟩⟩⟩⟩⟩⟩⟩⟩⟩⟩⟩
def mi_t80_1 : List (Nat × Instr × Nat) := [(74, .iadd, 1), (75, .putfield 160, 3), (78, .aload_n 0, 1), (79, .getfield 160, 3), (82, .iconst 1, 1), (83, .isub, 1), (84, .ireturn, 1)]
theorem mi_k80_1 : ∀ q ∈ mi_t80_1, decode cX5_link q.1 = .ok q.2 := List.forall_mem_cons.mpr ⟨dX5_link_74, List.forall_mem_cons.mpr ⟨dX5_link_75, List.forall_mem_cons.mpr ⟨dX5_link_78, List.forall_mem_cons.mpr ⟨dX5_link_79, List.forall_mem_cons.mpr ⟨dX5_link_82, List.forall_mem_cons.mpr ⟨dX5_link_83, List.forall_mem_cons.mpr ⟨dX5_link_84, fun _ h => absurd h List.not_mem_nil⟩⟩⟩⟩⟩⟩⟩
def mi_t80 : mi_T := [(74, mi_t80_0), (1000000, mi_t80_1)]
theorem mi_k80 : mi_dok cX5_link mi_t80 := List.forall_mem_cons.mpr ⟨mi_k80_0, List.forall_mem_cons.mpr ⟨mi_k80_1, fun _ h => absurd h List.not_mem_nil⟩⟩
def mi_m80 : mi_M := (mi_t80, 5, (some .int), 3, 1, 2, yX5_link, cX5_link)
def mi_t81_0 : List (Nat × Instr × Nat) := [(0, .aload_n 0, 1), (1, .getfield 43, 3), (4, .iload_n 1, 1), (5, .dup2, 1), (6, .iaload, 1), (7, .iconst 1, 1), (8, .iadd, 1), (9, .iastore, 1), (10, .aload_n 0, 1), (11, .iload_n 1, 1), (12, .aload_n 0, 1), (13, .iload_n 1, 1), (14, .iconst 3, 1), (15, .invokevirtual 139, 3), (18, .ifCond .eq 7, 3), (21, .iconst 4, 1), (22, .goto 18, 3), (25, .aload_n 0, 1), (26, .iload_n 1, 1), (27, .iconst 2, 1), (28, .invokevirtual 139, 3), (31, .ifCond .eq 7, 3), (34, .iconst 1, 1), (35, .goto 5, 3), (38, .bipush 6, 2), (40, .iload_n 2, 1), (41, .invokevirtual 157, 3), (44, .ireturn, 1)]
theorem mi_k81_0 : ∀ q ∈ mi_t81_0, decode cX5_takes q.1 = .ok q.2 := List.forall_mem_cons.mpr ⟨dX5_takes_0, List.forall_mem_cons.mpr ⟨dX5_takes_1, List.forall_mem_cons.mpr ⟨dX5_takes_4, List.forall_mem_cons.mpr ⟨dX5_takes_5, List.forall_mem_cons.mpr ⟨dX5_takes_6, List.forall_mem_cons.mpr ⟨dX5_takes_7, List.forall_mem_cons.mpr ⟨dX5_takes_8, List.forall_mem_cons.mpr ⟨dX5_takes_9, List.forall_mem_cons.mpr ⟨dX5_takes_10, List.forall_mem_cons.mpr ⟨dX5_takes_11, List.forall_mem_cons.mpr ⟨dX5_takes_12, List.forall_mem_cons.mpr ⟨dX5_takes_13, List.forall_mem_cons.mpr ⟨dX5_takes_14, List.forall_mem_cons.mpr ⟨dX5_takes_15, List.forall_mem_cons.mpr ⟨dX5_takes_18, List.forall_mem_cons.mpr ⟨dX5_takes_21, List.forall_mem_cons.mpr ⟨dX5_takes_22, List.forall_mem_cons.mpr ⟨dX5_takes_25, List.forall_mem_cons.mpr ⟨dX5_takes_26, List.forall_mem_cons.mpr ⟨dX5_takes_27, List.forall_mem_cons.mpr ⟨dX5_takes_28, List.forall_mem_cons.mpr ⟨dX5_takes_31, List.forall_mem_cons.mpr ⟨dX5_takes_34, List.forall_mem_cons.mpr ⟨dX5_takes_35, List.forall_mem_cons.mpr ⟨dX5_takes_38, List.forall_mem_cons.mpr ⟨dX5_takes_40, List.forall_mem_cons.mpr ⟨dX5_takes_41, List.forall_mem_cons.mpr ⟨dX5_takes_44, fun _ h => absurd h List.not_mem_nil⟩⟩⟩⟩⟩⟩⟩⟩⟩⟩⟩⟩⟩⟩⟩⟩⟩⟩⟩⟩⟩⟩⟩⟩⟩⟩⟩⟩
def mi_t81 : mi_T := [(1000000, mi_t81_0)]
theorem mi_k81 : mi_dok cX5_takes mi_t81 := List.forall_mem_cons.mpr ⟨mi_k81_0, fun _ h => absurd h List.not_mem_nil⟩
def mi_m81 : mi_M := (mi_t81, 5, (some .int), 3, 1, 2, yX5_takes, cX5_takes)
def mi_t82_0 : List (Nat × Instr × Nat) := [(0, .aload_n 0, 1), (1, .iload_n 1, 1), (2, .invokevirtual 129, 3), (5, .ifCond .ne 9, 3), (8, .aload_n 0, 1), (9, .iconst 1, 1), (10, .invokevirtual 151, 3), (13, .ireturn, 1), (14, .aload_n 0, 1), (15, .invokevirtual 154, 3), (18, .iconst 0, 1), (19, .istore_n 3, 1), (20, .iload_n 3, 1), (21, .aload_n 0, 1), (22, .getfield 123, 3), (25, .if_icmp .ge 16, 3), (28, .aload_n 0, 1), (29, .getfield 58, 3), (32, .iload_n 3, 1), (33, .iconst 0, 1), (34, .bastore, 1), (35, .iinc 3 1, 3), (38, .goto (-18), 3), (41, .aload_n 0, 1), (42, .getfield 52, 3), (45, .iconst 0, 1), (46, .iload_n 1, 1), (47, .iastore, 1), (48, .aload_n 0, 1), (49, .getfield 58, 3), (52, .iload_n 1, 1), (53, .iconst 1, 1), (54, .bastore, 1), (55, .aload_n 0, 1), (56, .getfield 55, 3), (59, .iconst 0, 1), (60, .aload_n 0, 1), (61, .iload_n 1, 1), (62, .iload_n 2, 1), (63, .invokevirtual 163, 3)]
theorem mi_k82_0 : ∀ q ∈ mi_t82_0, decode cX5_pass q.1 = .ok q.2 := List.forall_mem_cons.mpr ⟨dX5_pass_0, List.forall_mem_cons.mpr ⟨dX5_pass_1, List.forall_mem_cons.mpr ⟨dX5_pass_2, List.forall_mem_cons.mpr ⟨dX5_pass_5, List.forall_mem_cons.mpr ⟨dX5_pass_8, List.forall_mem_cons.mpr ⟨dX5_pass_9, List.forall_mem_cons.mpr ⟨dX5_pass_10, List.forall_mem_cons.mpr ⟨dX5_pass_13, List.forall_mem_cons.mpr ⟨dX5_pass_14, List.forall_mem_cons.mpr ⟨dX5_pass_15, List.forall_mem_cons.mpr ⟨dX5_pass_18, List.forall_mem_cons.mpr ⟨dX5_pass_19, List.forall_mem_cons.mpr ⟨dX5_pass_20, List.forall_mem_cons.mpr ⟨dX5_pass_21, List.forall_mem_cons.mpr ⟨dX5_pass_22, List.forall_mem_cons.mpr ⟨dX5_pass_25, List.forall_mem_cons.mpr ⟨dX5_pass_28, List.forall_mem_cons.mpr ⟨dX5_pass_29, List.forall_mem_cons.mpr ⟨dX5_pass_32, List.forall_mem_cons.mpr ⟨dX5_pass_33, List.forall_mem_cons.mpr ⟨dX5_pass_34, List.forall_mem_cons.mpr ⟨dX5_pass_35, List.forall_mem_cons.mpr ⟨dX5_pass_38, List.forall_mem_cons.mpr ⟨dX5_pass_41, List.forall_mem_cons.mpr ⟨dX5_pass_42, List.forall_mem_cons.mpr ⟨dX5_pass_45, List.forall_mem_cons.mpr ⟨dX5_pass_46, List.forall_mem_cons.mpr ⟨dX5_pass_47, List.forall_mem_cons.mpr ⟨dX5_pass_48, List.forall_mem_cons.mpr ⟨dX5_pass_49, List.forall_mem_cons.mpr ⟨dX5_pass_52, List.forall_mem_cons.mpr ⟨dX5_pass_53, List.forall_mem_cons.mpr ⟨dX5_pass_54, List.forall_mem_cons.mpr ⟨dX5_pass_55, List.forall_mem_cons.mpr ⟨dX5_pass_56, List.forall_mem_cons.mpr ⟨dX5_pass_59, List.forall_mem_cons.mpr ⟨dX5_pass_60, List.forall_mem_cons.mpr ⟨dX5_pass_61, List.forall_mem_cons.mpr ⟨dX5_pass_62, List.forall_mem_cons.mpr ⟨dX5_pass_63, fun _ h => absurd h List.not_mem_nil⟩⟩⟩⟩⟩⟩⟩⟩⟩⟩⟩⟩⟩⟩⟩⟩⟩⟩⟩⟩⟩⟩⟩⟩⟩⟩⟩⟩⟩⟩⟩⟩⟩⟩⟩⟩⟩⟩⟩⟩
def mi_t82_1 : List (Nat × Instr × Nat) := [(66, .iastore, 1), (67, .iconst 1, 1), (68, .istore_n 3, 1), (69, .iconst 0, 1), (70, .istore 4, 2), (72, .iload 4, 2), (74, .iload_n 3, 1), (75, .if_icmp .ge 115, 3), (78, .iconst 0, 1), (79, .istore 5, 2), (81, .iload 5, 2), (83, .aload_n 0, 1), (84, .getfield 160, 3), (87, .if_icmp .ge 97, 3), (90, .aload_n 0, 1), (91, .getfield 46, 3), (94, .iload 5, 2), (96, .iaload, 1), (97, .aload_n 0, 1), (98, .getfield 52, 3), (101, .iload 4, 2), (103, .iaload, 1), (104, .if_icmp .ne 74, 3), (107, .aload_n 0, 1), (108, .getfield 58, 3), (111, .aload_n 0, 1), (112, .getfield 49, 3), (115, .iload 5, 2), (117, .iaload, 1), (118, .baload, 1), (119, .ifCond .eq 6, 3), (122, .goto 56, 3), (125, .aload_n 0, 1), (126, .getfield 58, 3), (129, .aload_n 0, 1), (130, .getfield 49, 3), (133, .iload 5, 2), (135, .iaload, 1), (136, .iconst 1, 1), (137, .bastore, 1)]
theorem mi_k82_1 : ∀ q ∈ mi_t82_1, decode cX5_pass q.1 = .ok q.2 := List.forall_mem_cons.mpr ⟨dX5_pass_66, List.forall_mem_cons.mpr ⟨dX5_pass_67, List.forall_mem_cons.mpr ⟨dX5_pass_68, List.forall_mem_cons.mpr ⟨dX5_pass_69, List.forall_mem_cons.mpr ⟨dX5_pass_70, List.forall_mem_cons.mpr ⟨dX5_pass_72, List.forall_mem_cons.mpr ⟨dX5_pass_74, List.forall_mem_cons.mpr ⟨dX5_pass_75, List.forall_mem_cons.mpr ⟨dX5_pass_78, List.forall_mem_cons.mpr ⟨dX5_pass_79, List.forall_mem_cons.mpr ⟨dX5_pass_81, List.forall_mem_cons.mpr ⟨dX5_pass_83, List.forall_mem_cons.mpr ⟨dX5_pass_84, List.forall_mem_cons.mpr ⟨dX5_pass_87, List.forall_mem_cons.mpr ⟨dX5_pass_90, List.forall_mem_cons.mpr ⟨dX5_pass_91, List.forall_mem_cons.mpr ⟨dX5_pass_94, List.forall_mem_cons.mpr ⟨dX5_pass_96, List.forall_mem_cons.mpr ⟨dX5_pass_97, List.forall_mem_cons.mpr ⟨dX5_pass_98, List.forall_mem_cons.mpr ⟨dX5_pass_101, List.forall_mem_cons.mpr ⟨dX5_pass_103, List.forall_mem_cons.mpr ⟨dX5_pass_104, List.forall_mem_cons.mpr ⟨dX5_pass_107, List.forall_mem_cons.mpr ⟨dX5_pass_108, List.forall_mem_cons.mpr ⟨dX5_pass_111, List.forall_mem_cons.mpr ⟨dX5_pass_112, List.forall_mem_cons.mpr ⟨dX5_pass_115, List.forall_mem_cons.mpr ⟨dX5_pass_117, List.forall_mem_cons.mpr ⟨dX5_pass_118, List.forall_mem_cons.mpr ⟨dX5_pass_119, List.forall_mem_cons.mpr ⟨dX5_pass_122, List.forall_mem_cons.mpr ⟨dX5_pass_125, List.forall_mem_cons.mpr ⟨dX5_pass_126, List.forall_mem_cons.mpr ⟨dX5_pass_129, List.forall_mem_cons.mpr ⟨dX5_pass_130, List.forall_mem_cons.mpr ⟨dX5_pass_133, List.forall_mem_cons.mpr ⟨dX5_pass_135, List.forall_mem_cons.mpr ⟨dX5_pass_136, List.forall_mem_cons.mpr ⟨dX5_pass_137, fun _ h => absurd h List.not_mem_nil⟩⟩⟩⟩⟩⟩⟩⟩⟩⟩⟩⟩⟩⟩⟩⟩⟩⟩⟩⟩⟩⟩⟩⟩⟩⟩⟩⟩⟩⟩⟩⟩⟩⟩⟩⟩⟩⟩⟩⟩
def mi_t82_2 : List (Nat × Instr × Nat) := [(138, .aload_n 0, 1), (139, .getfield 52, 3), (142, .iload_n 3, 1), (143, .aload_n 0, 1), (144, .getfield 49, 3), (147, .iload 5, 2), (149, .iaload, 1), (150, .iastore, 1), (151, .aload_n 0, 1), (152, .getfield 55, 3), (155, .iload_n 3, 1), (156, .aload_n 0, 1), (157, .aload_n 0, 1), (158, .getfield 49, 3), (161, .iload 5, 2), (163, .iaload, 1), (164, .aload_n 0, 1), (165, .getfield 55, 3), (168, .iload 4, 2), (170, .iaload, 1), (171, .invokevirtual 163, 3), (174, .iastore, 1), (175, .iinc 3 1, 3), (178, .iinc 5 1, 3), (181, .goto (-100), 3), (184, .iinc 4 1, 3), (187, .goto (-115), 3), (190, .iload_n 3, 1), (191, .ireturn, 1)]
theorem mi_k82_2 : ∀ q ∈ mi_t82_2, decode cX5_pass q.1 = .ok q.2 := List.forall_mem_cons.mpr ⟨dX5_pass_138, List.forall_mem_cons.mpr ⟨dX5_pass_139, List.forall_mem_cons.mpr ⟨dX5_pass_142, List.forall_mem_cons.mpr ⟨dX5_pass_143, List.forall_mem_cons.mpr ⟨dX5_pass_144, List.forall_mem_cons.mpr ⟨dX5_pass_147, List.forall_mem_cons.mpr ⟨dX5_pass_149, List.forall_mem_cons.mpr ⟨dX5_pass_150, List.forall_mem_cons.mpr ⟨dX5_pass_151, List.forall_mem_cons.mpr ⟨dX5_pass_152, List.forall_mem_cons.mpr ⟨dX5_pass_155, List.forall_mem_cons.mpr ⟨dX5_pass_156, List.forall_mem_cons.mpr ⟨dX5_pass_157, List.forall_mem_cons.mpr ⟨dX5_pass_158, List.forall_mem_cons.mpr ⟨dX5_pass_161, List.forall_mem_cons.mpr ⟨dX5_pass_163, List.forall_mem_cons.mpr ⟨dX5_pass_164, List.forall_mem_cons.mpr ⟨dX5_pass_165, List.forall_mem_cons.mpr ⟨dX5_pass_168, List.forall_mem_cons.mpr ⟨dX5_pass_170, List.forall_mem_cons.mpr ⟨dX5_pass_171, List.forall_mem_cons.mpr ⟨dX5_pass_174, List.forall_mem_cons.mpr ⟨dX5_pass_175, List.forall_mem_cons.mpr ⟨dX5_pass_178, List.forall_mem_cons.mpr ⟨dX5_pass_181, List.forall_mem_cons.mpr ⟨dX5_pass_184, List.forall_mem_cons.mpr ⟨dX5_pass_187, List.forall_mem_cons.mpr ⟨dX5_pass_190, List.forall_mem_cons.mpr ⟨dX5_pass_191, fun _ h => absurd h List.not_mem_nil⟩⟩⟩⟩⟩⟩⟩⟩⟩⟩⟩⟩⟩⟩⟩⟩⟩⟩⟩⟩⟩⟩⟩⟩⟩⟩⟩⟩⟩
def mi_t82 : mi_T := [(66, mi_t82_0), (138, mi_t82_1), (1000000, mi_t82_2)]
theorem mi_k82 : mi_dok cX5_pass mi_t82 := List.forall_mem_cons.mpr ⟨mi_k82_0, List.forall_mem_cons.mpr ⟨mi_k82_1, List.forall_mem_cons.mpr ⟨mi_k82_2, fun _ h => absurd h List.not_mem_nil⟩⟩⟩
def mi_m82 : mi_M := (mi_t82, 5, (some .int), 6, 1, 2, yX5_pass, cX5_pass)
def mi_t83_0 : List (Nat × Instr × Nat) := [(0, .aload_n 0, 1), (1, .iload_n 1, 1), (2, .invokevirtual 129, 3), (5, .ifCond .eq 10, 3), (8, .iload_n 2, 1), (9, .invokestatic 136, 3), (12, .ifCond .ne 7, 3), (15, .iconst (-1), 1), (16, .goto 17, 3), (19, .aload_n 0, 1), (20, .iload_n 1, 1), (21, .iload_n 2, 1), (22, .invokevirtual 139, 3), (25, .ifCond .eq 7, 3), (28, .iconst 1, 1), (29, .goto 4, 3), (32, .iconst 0, 1), (33, .ireturn, 1)]
theorem mi_k83_0 : ∀ q ∈ mi_t83_0, decode cX5_able q.1 = .ok q.2 := List.forall_mem_cons.mpr ⟨dX5_able_0, List.forall_mem_cons.mpr ⟨dX5_able_1, List.forall_mem_cons.mpr ⟨dX5_able_2, List.forall_mem_cons.mpr ⟨dX5_able_5, List.forall_mem_cons.mpr ⟨dX5_able_8, List.forall_mem_cons.mpr ⟨dX5_able_9, List.forall_mem_cons.mpr ⟨dX5_able_12, List.forall_mem_cons.mpr ⟨dX5_able_15, List.forall_mem_cons.mpr ⟨dX5_able_16, List.forall_mem_cons.mpr ⟨dX5_able_19, List.forall_mem_cons.mpr ⟨dX5_able_20, List.forall_mem_cons.mpr ⟨dX5_able_21, List.forall_mem_cons.mpr ⟨dX5_able_22, List.forall_mem_cons.mpr ⟨dX5_able_25, List.forall_mem_cons.mpr ⟨dX5_able_28, List.forall_mem_cons.mpr ⟨dX5_able_29, List.forall_mem_cons.mpr ⟨dX5_able_32, List.forall_mem_cons.mpr ⟨dX5_able_33, fun _ h => absurd h List.not_mem_nil⟩⟩⟩⟩⟩⟩⟩⟩⟩⟩⟩⟩⟩⟩⟩⟩⟩⟩
def mi_t83 : mi_T := [(1000000, mi_t83_0)]
theorem mi_k83 : mi_dok cX5_able mi_t83 := List.forall_mem_cons.mpr ⟨mi_k83_0, fun _ h => absurd h List.not_mem_nil⟩
def mi_m83 : mi_M := (mi_t83, 5, (some .int), 3, 1, 2, yX5_able, cX5_able)
def mi_t84_0 : List (Nat × Instr × Nat) := [(0, .iload_n 1, 1), (1, .ifCond .lt 17, 3), (4, .iload_n 1, 1), (5, .bipush 64, 2), (7, .if_icmp .ge 11, 3), (10, .iload_n 1, 1), (11, .aload_n 0, 1), (12, .getfield 102, 3), (15, .if_icmp .lt 7, 3), (18, .iconst (-1), 1), (19, .goto 9, 3), (22, .aload_n 0, 1), (23, .getfield 62, 3), (26, .iload_n 1, 1), (27, .iaload, 1), (28, .ireturn, 1)]
theorem mi_k84_0 : ∀ q ∈ mi_t84_0, decode cX5_chain q.1 = .ok q.2 := List.forall_mem_cons.mpr ⟨dX5_chain_0, List.forall_mem_cons.mpr ⟨dX5_chain_1, List.forall_mem_cons.mpr ⟨dX5_chain_4, List.forall_mem_cons.mpr ⟨dX5_chain_5, List.forall_mem_cons.mpr ⟨dX5_chain_7, List.forall_mem_cons.mpr ⟨dX5_chain_10, List.forall_mem_cons.mpr ⟨dX5_chain_11, List.forall_mem_cons.mpr ⟨dX5_chain_12, List.forall_mem_cons.mpr ⟨dX5_chain_15, List.forall_mem_cons.mpr ⟨dX5_chain_18, List.forall_mem_cons.mpr ⟨dX5_chain_19, List.forall_mem_cons.mpr ⟨dX5_chain_22, List.forall_mem_cons.mpr ⟨dX5_chain_23, List.forall_mem_cons.mpr ⟨dX5_chain_26, List.forall_mem_cons.mpr ⟨dX5_chain_27, List.forall_mem_cons.mpr ⟨dX5_chain_28, fun _ h => absurd h List.not_mem_nil⟩⟩⟩⟩⟩⟩⟩⟩⟩⟩⟩⟩⟩⟩⟩⟩
def mi_t84 : mi_T := [(1000000, mi_t84_0)]
theorem mi_k84 : mi_dok cX5_chain mi_t84 := List.forall_mem_cons.mpr ⟨mi_k84_0, fun _ h => absurd h List.not_mem_nil⟩
def mi_m84 : mi_M := (mi_t84, 5, (some .int), 2, 1, 1, yX5_chain, cX5_chain)
def mi_t85_0 : List (Nat × Instr × Nat) := [(0, .aload_n 0, 1), (1, .getfield 102, 3), (4, .ireturn, 1)]
theorem mi_k85_0 : ∀ q ∈ mi_t85_0, decode cX5_ran q.1 = .ok q.2 := List.forall_mem_cons.mpr ⟨dX5_ran_0, List.forall_mem_cons.mpr ⟨dX5_ran_1, List.forall_mem_cons.mpr ⟨dX5_ran_4, fun _ h => absurd h List.not_mem_nil⟩⟩⟩
def mi_t85 : mi_T := [(1000000, mi_t85_0)]
theorem mi_k85 : mi_dok cX5_ran mi_t85 := List.forall_mem_cons.mpr ⟨mi_k85_0, fun _ h => absurd h List.not_mem_nil⟩
def mi_m85 : mi_M := (mi_t85, 5, (some .int), 1, 1, 0, yX5_ran, cX5_ran)
def mi_t86_0 : List (Nat × Instr × Nat) := [(0, .aload_n 0, 1), (1, .iload_n 1, 1), (2, .invokevirtual 129, 3), (5, .ifCond .eq 12, 3), (8, .iload_n 2, 1), (9, .ifCond .lt 8, 3), (12, .iload_n 2, 1), (13, .iconst 5, 1), (14, .if_icmp .le 9, 3), (17, .aload_n 0, 1), (18, .iconst 1, 1), (19, .invokevirtual 151, 3), (22, .ireturn, 1), (23, .aload_n 0, 1), (24, .iconst 0, 1), (25, .putfield 126, 3), (28, .iload_n 2, 1), (29, .ifCond .ne 10, 3), (32, .aload_n 0, 1), (33, .getfield 34, 3), (36, .iload_n 1, 1), (37, .iaload, 1), (38, .ireturn, 1), (39, .iload_n 2, 1), (40, .iconst 1, 1), (41, .if_icmp .ne 10, 3), (44, .aload_n 0, 1), (45, .getfield 37, 3), (48, .iload_n 1, 1), (49, .iaload, 1), (50, .ireturn, 1), (51, .iload_n 2, 1), (52, .iconst 2, 1), (53, .if_icmp .ne 10, 3), (56, .aload_n 0, 1), (57, .getfield 40, 3), (60, .iload_n 1, 1), (61, .iaload, 1), (62, .ireturn, 1), (63, .iload_n 2, 1)]
theorem mi_k86_0 : ∀ q ∈ mi_t86_0, decode cX5_state q.1 = .ok q.2 := List.forall_mem_cons.mpr ⟨dX5_state_0, List.forall_mem_cons.mpr ⟨dX5_state_1, List.forall_mem_cons.mpr ⟨dX5_state_2, List.forall_mem_cons.mpr ⟨dX5_state_5, List.forall_mem_cons.mpr ⟨dX5_state_8, List.forall_mem_cons.mpr ⟨dX5_state_9, List.forall_mem_cons.mpr ⟨dX5_state_12, List.forall_mem_cons.mpr ⟨dX5_state_13, List.forall_mem_cons.mpr ⟨dX5_state_14, List.forall_mem_cons.mpr ⟨dX5_state_17, List.forall_mem_cons.mpr ⟨dX5_state_18, List.forall_mem_cons.mpr ⟨dX5_state_19, List.forall_mem_cons.mpr ⟨dX5_state_22, List.forall_mem_cons.mpr ⟨dX5_state_23, List.forall_mem_cons.mpr ⟨dX5_state_24, List.forall_mem_cons.mpr ⟨dX5_state_25, List.forall_mem_cons.mpr ⟨dX5_state_28, List.forall_mem_cons.mpr ⟨dX5_state_29, List.forall_mem_cons.mpr ⟨dX5_state_32, List.forall_mem_cons.mpr ⟨dX5_state_33, List.forall_mem_cons.mpr ⟨dX5_state_36, List.forall_mem_cons.mpr ⟨dX5_state_37, List.forall_mem_cons.mpr ⟨dX5_state_38, List.forall_mem_cons.mpr ⟨dX5_state_39, List.forall_mem_cons.mpr ⟨dX5_state_40, List.forall_mem_cons.mpr ⟨dX5_state_41, List.forall_mem_cons.mpr ⟨dX5_state_44, List.forall_mem_cons.mpr ⟨dX5_state_45, List.forall_mem_cons.mpr ⟨dX5_state_48, List.forall_mem_cons.mpr ⟨dX5_state_49, List.forall_mem_cons.mpr ⟨dX5_state_50, List.forall_mem_cons.mpr ⟨dX5_state_51, List.forall_mem_cons.mpr ⟨dX5_state_52, List.forall_mem_cons.mpr ⟨dX5_state_53, List.forall_mem_cons.mpr ⟨dX5_state_56, List.forall_mem_cons.mpr ⟨dX5_state_57, List.forall_mem_cons.mpr ⟨dX5_state_60, List.forall_mem_cons.mpr ⟨dX5_state_61, List.forall_mem_cons.mpr ⟨dX5_state_62, List.forall_mem_cons.mpr ⟨dX5_state_63, fun _ h => absurd h List.not_mem_nil⟩⟩⟩⟩⟩⟩⟩⟩⟩⟩⟩⟩⟩⟩⟩⟩⟩⟩⟩⟩⟩⟩⟩⟩⟩⟩⟩⟩⟩⟩⟩⟩⟩⟩⟩⟩⟩⟩⟩⟩
def mi_t86_1 : List (Nat × Instr × Nat) := [(64, .iconst 5, 1), (65, .if_icmp .ne 10, 3), (68, .aload_n 0, 1), (69, .getfield 43, 3), (72, .iload_n 1, 1), (73, .iaload, 1), (74, .ireturn, 1), (75, .iconst 0, 1), (76, .istore_n 3, 1), (77, .iconst 0, 1), (78, .istore 4, 2), (80, .iload 4, 2), (82, .aload_n 0, 1), (83, .getfield 160, 3), (86, .if_icmp .ge 38, 3), (89, .iload_n 2, 1), (90, .iconst 3, 1), (91, .if_icmp .ne 13, 3), (94, .aload_n 0, 1), (95, .getfield 46, 3), (98, .iload 4, 2), (100, .iaload, 1), (101, .goto 10, 3), (104, .aload_n 0, 1), (105, .getfield 49, 3), (108, .iload 4, 2), (110, .iaload, 1), (111, .iload_n 1, 1), (112, .if_icmp .ne 6, 3), (115, .iinc 3 1, 3), (118, .iinc 4 1, 3), (121, .goto (-41), 3), (124, .iload_n 3, 1), (125, .ireturn, 1)]
theorem mi_k86_1 : ∀ q ∈ mi_t86_1, decode cX5_state q.1 = .ok q.2 := List.forall_mem_cons.mpr ⟨dX5_state_64, List.forall_mem_cons.mpr ⟨dX5_state_65, List.forall_mem_cons.mpr ⟨dX5_state_68, List.forall_mem_cons.mpr ⟨dX5_state_69, List.forall_mem_cons.mpr ⟨dX5_state_72, List.forall_mem_cons.mpr ⟨dX5_state_73, List.forall_mem_cons.mpr ⟨dX5_state_74, List.forall_mem_cons.mpr ⟨dX5_state_75, List.forall_mem_cons.mpr ⟨dX5_state_76, List.forall_mem_cons.mpr ⟨dX5_state_77, List.forall_mem_cons.mpr ⟨dX5_state_78, List.forall_mem_cons.mpr ⟨dX5_state_80, List.forall_mem_cons.mpr ⟨dX5_state_82, List.forall_mem_cons.mpr ⟨dX5_state_83, List.forall_mem_cons.mpr ⟨dX5_state_86, List.forall_mem_cons.mpr ⟨dX5_state_89, List.forall_mem_cons.mpr ⟨dX5_state_90, List.forall_mem_cons.mpr ⟨dX5_state_91, List.forall_mem_cons.mpr ⟨dX5_state_94, List.forall_mem_cons.mpr ⟨dX5_state_95, List.forall_mem_cons.mpr ⟨dX5_state_98, List.forall_mem_cons.mpr ⟨dX5_state_100, List.forall_mem_cons.mpr ⟨dX5_state_101, List.forall_mem_cons.mpr ⟨dX5_state_104, List.forall_mem_cons.mpr ⟨dX5_state_105, List.forall_mem_cons.mpr ⟨dX5_state_108, List.forall_mem_cons.mpr ⟨dX5_state_110, List.forall_mem_cons.mpr ⟨dX5_state_111, List.forall_mem_cons.mpr ⟨dX5_state_112, List.forall_mem_cons.mpr ⟨dX5_state_115, List.forall_mem_cons.mpr ⟨dX5_state_118, List.forall_mem_cons.mpr ⟨dX5_state_121, List.forall_mem_cons.mpr ⟨dX5_state_124, List.forall_mem_cons.mpr ⟨dX5_state_125, fun _ h => absurd h List.not_mem_nil⟩⟩⟩⟩⟩⟩⟩⟩⟩⟩⟩⟩⟩⟩⟩⟩⟩⟩⟩⟩⟩⟩⟩⟩⟩⟩⟩⟩⟩⟩⟩⟩⟩⟩
def mi_t86 : mi_T := [(64, mi_t86_0), (1000000, mi_t86_1)]
theorem mi_k86 : mi_dok cX5_state mi_t86 := List.forall_mem_cons.mpr ⟨mi_k86_0, List.forall_mem_cons.mpr ⟨mi_k86_1, fun _ h => absurd h List.not_mem_nil⟩⟩
def mi_m86 : mi_M := (mi_t86, 5, (some .int), 5, 1, 2, yX5_state, cX5_state)
def mi_t87_0 : List (Nat × Instr × Nat) := [(0, .iload_n 1, 1), (1, .ifCond .lt 9, 3), (4, .iload_n 1, 1), (5, .bipush 7, 2), (7, .if_icmp .lt 5, 3), (10, .iconst (-1), 1), (11, .ireturn, 1), (12, .iload_n 1, 1), (13, .iconst 2, 1), (14, .if_icmp .ge 19, 3), (17, .iload_n 1, 1), (18, .ifCond .ne 10, 3), (21, .aload_n 0, 1), (22, .getfield 123, 3), (25, .goto 7, 3), (28, .aload_n 0, 1), (29, .getfield 160, 3), (32, .ireturn, 1), (33, .iconst 0, 1), (34, .istore_n 2, 1), (35, .iconst 0, 1), (36, .istore_n 3, 1), (37, .iload_n 3, 1), (38, .aload_n 0, 1), (39, .getfield 123, 3), (42, .if_icmp .ge 21, 3), (45, .aload_n 0, 1), (46, .iload_n 3, 1), (47, .iload_n 1, 1), (48, .invokevirtual 139, 3), (51, .ifCond .eq 6, 3), (54, .iinc 2 1, 3), (57, .iinc 3 1, 3), (60, .goto (-23), 3), (63, .iload_n 2, 1), (64, .ireturn, 1)]
theorem mi_k87_0 : ∀ q ∈ mi_t87_0, decode cX5_size q.1 = .ok q.2 := List.forall_mem_cons.mpr ⟨dX5_size_0, List.forall_mem_cons.mpr ⟨dX5_size_1, List.forall_mem_cons.mpr ⟨dX5_size_4, List.forall_mem_cons.mpr ⟨dX5_size_5, List.forall_mem_cons.mpr ⟨dX5_size_7, List.forall_mem_cons.mpr ⟨dX5_size_10, List.forall_mem_cons.mpr ⟨dX5_size_11, List.forall_mem_cons.mpr ⟨dX5_size_12, List.forall_mem_cons.mpr ⟨dX5_size_13, List.forall_mem_cons.mpr ⟨dX5_size_14, List.forall_mem_cons.mpr ⟨dX5_size_17, List.forall_mem_cons.mpr ⟨dX5_size_18, List.forall_mem_cons.mpr ⟨dX5_size_21, List.forall_mem_cons.mpr ⟨dX5_size_22, List.forall_mem_cons.mpr ⟨dX5_size_25, List.forall_mem_cons.mpr ⟨dX5_size_28, List.forall_mem_cons.mpr ⟨dX5_size_29, List.forall_mem_cons.mpr ⟨dX5_size_32, List.forall_mem_cons.mpr ⟨dX5_size_33, List.forall_mem_cons.mpr ⟨dX5_size_34, List.forall_mem_cons.mpr ⟨dX5_size_35, List.forall_mem_cons.mpr ⟨dX5_size_36, List.forall_mem_cons.mpr ⟨dX5_size_37, List.forall_mem_cons.mpr ⟨dX5_size_38, List.forall_mem_cons.mpr ⟨dX5_size_39, List.forall_mem_cons.mpr ⟨dX5_size_42, List.forall_mem_cons.mpr ⟨dX5_size_45, List.forall_mem_cons.mpr ⟨dX5_size_46, List.forall_mem_cons.mpr ⟨dX5_size_47, List.forall_mem_cons.mpr ⟨dX5_size_48, List.forall_mem_cons.mpr ⟨dX5_size_51, List.forall_mem_cons.mpr ⟨dX5_size_54, List.forall_mem_cons.mpr ⟨dX5_size_57, List.forall_mem_cons.mpr ⟨dX5_size_60, List.forall_mem_cons.mpr ⟨dX5_size_63, List.forall_mem_cons.mpr ⟨dX5_size_64, fun _ h => absurd h List.not_mem_nil⟩⟩⟩⟩⟩⟩⟩⟩⟩⟩⟩⟩⟩⟩⟩⟩⟩⟩⟩⟩⟩⟩⟩⟩⟩⟩⟩⟩⟩⟩⟩⟩⟩⟩⟩⟩
def mi_t87 : mi_T := [(1000000, mi_t87_0)]
theorem mi_k87 : mi_dok cX5_size mi_t87 := List.forall_mem_cons.mpr ⟨mi_k87_0, fun _ h => absurd h List.not_mem_nil⟩
def mi_m87 : mi_M := (mi_t87, 5, (some .int), 4, 1, 1, yX5_size, cX5_size)
def mi_t88_0 : List (Nat × Instr × Nat) := [(0, .aload_n 0, 1), (1, .getfield 126, 3), (4, .ireturn, 1)]
theorem mi_k88_0 : ∀ q ∈ mi_t88_0, decode cX5_status q.1 = .ok q.2 := List.forall_mem_cons.mpr ⟨dX5_status_0, List.forall_mem_cons.mpr ⟨dX5_status_1, List.forall_mem_cons.mpr ⟨dX5_status_4, fun _ h => absurd h List.not_mem_nil⟩⟩⟩
def mi_t88 : mi_T := [(1000000, mi_t88_0)]
theorem mi_k88 : mi_dok cX5_status mi_t88 := List.forall_mem_cons.mpr ⟨mi_k88_0, fun _ h => absurd h List.not_mem_nil⟩
def mi_m88 : mi_M := (mi_t88, 5, (some .int), 1, 1, 0, yX5_status, cX5_status)
def mi_L : List mi_M := [mi_m0, mi_m1, mi_m2, mi_m3, mi_m4, mi_m5, mi_m6, mi_m7, mi_m8, mi_m9, mi_m10, mi_m11, mi_m12, mi_m13, mi_m14, mi_m15, mi_m16, mi_m17, mi_m18, mi_m19, mi_m20, mi_m21, mi_m22, mi_m23, mi_m24, mi_m25, mi_m26, mi_m27, mi_m28, mi_m29, mi_m30, mi_m31, mi_m32, mi_m33, mi_m34, mi_m35, mi_m36, mi_m37, mi_m38, mi_m39, mi_m40, mi_m41, mi_m42, mi_m43, mi_m44, mi_m45, mi_m46, mi_m47, mi_m48, mi_m49, mi_m50, mi_m51, mi_m52, mi_m53, mi_m54, mi_m55, mi_m56, mi_m57, mi_m58, mi_m59, mi_m60, mi_m61, mi_m62, mi_m63, mi_m64, mi_m65, mi_m66, mi_m67, mi_m68, mi_m69, mi_m70, mi_m71, mi_m72, mi_m73, mi_m74, mi_m75, mi_m76, mi_m77, mi_m78, mi_m79, mi_m80, mi_m81, mi_m82, mi_m83, mi_m84, mi_m85, mi_m86, mi_m87, mi_m88]
/-- what the words say of a method's row -/
def mi_okm (X : mi_M) : Prop := mi_dok X.2.2.2.2.2.2.2 X.1 ∧ Cond.code X.2.2.2.2.2.2.1 X.2.2.2.2.2.2.2 X.2.2.2.1 X.2.2.1 ∈ mi_Ts ∧ plainName X.2.2.2.2.2.2.1.cls = true ∧ Cond.initialized X.2.2.2.2.2.2.1.cls ∈ mi_Ts ∧ X.2.2.2.2.2.2.1.cls = mi_cn X.2.1 ∧
  (X.2.2.2.2.2.2.1.cls ≠ "java/lang/invoke/MethodHandle" ∧ X.2.2.2.2.2.2.1.cls ≠ "java/lang/invoke/VarHandle" ∧ (parseMethodDescriptor X.2.2.2.2.2.2.1.desc).map (fun d => d.parameters.length) = some X.2.2.2.2.2.1) ∧
  (X.2.2.2.2.1 = 0 → Cond.static X.2.2.2.2.2.2.1 ∈ mi_Ts) ∧ (X.2.2.2.2.1 = 1 → Cond.instanceMethod X.2.2.2.2.2.2.1 ∈ mi_Ts ∧ Cond.selects X.2.2.2.2.2.2.1.cls X.2.2.2.2.2.2.1 X.2.2.2.2.2.2.1 ∈ mi_Ts) ∧ (X.2.2.2.2.1 = 2 → Cond.instanceMethod X.2.2.2.2.2.2.1 ∈ mi_Ts ∧ X.2.2.2.2.2.2.1.name = "<init>" ∧ X.2.2.1 = none) ∧ (if X.2.2.2.2.1 = 0 then X.2.2.2.2.2.1 else X.2.2.2.2.2.1 + 1) ≤ X.2.2.2.1 ∧ X.2.2.2.1 ≤ 40
set_option maxRecDepth 100000 in
theorem mi_r0 : mi_okm mi_m0 := ⟨mi_k0, (mi_in 19 rfl (by decide +kernel)), by decide +kernel, (mi_in 2 (by decide +kernel) (by decide +kernel)), rfl, by decide +kernel, (fun h => absurd h (by decide)), (fun h => absurd h (by decide)), (fun _ => ⟨(mi_in 18 (by decide +kernel) (by decide +kernel)), rfl, rfl⟩), by decide, by decide⟩
set_option maxRecDepth 100000 in
theorem mi_r1 : mi_okm mi_m1 := ⟨mi_k1, (mi_in 187 rfl (by decide +kernel)), by decide +kernel, (mi_in 2 (by decide +kernel) (by decide +kernel)), rfl, by decide +kernel, (fun h => absurd h (by decide)), (fun _ => ⟨(mi_in 186 (by decide +kernel) (by decide +kernel)), (mi_inS 3 (by decide +kernel) (by decide +kernel))⟩), (fun h => absurd h (by decide)), by decide, by decide⟩
set_option maxRecDepth 100000 in
theorem mi_r2 : mi_okm mi_m2 := ⟨mi_k2, (mi_in 302 rfl (by decide +kernel)), by decide +kernel, (mi_in 2 (by decide +kernel) (by decide +kernel)), rfl, by decide +kernel, (fun h => absurd h (by decide)), (fun _ => ⟨(mi_in 301 (by decide +kernel) (by decide +kernel)), (mi_inS 20 (by decide +kernel) (by decide +kernel))⟩), (fun h => absurd h (by decide)), by decide, by decide⟩
set_option maxRecDepth 100000 in
theorem mi_r3 : mi_okm mi_m3 := ⟨mi_k3, (mi_in 195 rfl (by decide +kernel)), by decide +kernel, (mi_in 2 (by decide +kernel) (by decide +kernel)), rfl, by decide +kernel, (fun h => absurd h (by decide)), (fun _ => ⟨(mi_in 194 (by decide +kernel) (by decide +kernel)), (mi_inS 5 (by decide +kernel) (by decide +kernel))⟩), (fun h => absurd h (by decide)), by decide, by decide⟩
set_option maxRecDepth 100000 in
theorem mi_r4 : mi_okm mi_m4 := ⟨mi_k4, (mi_in 191 rfl (by decide +kernel)), by decide +kernel, (mi_in 2 (by decide +kernel) (by decide +kernel)), rfl, by decide +kernel, (fun h => absurd h (by decide)), (fun _ => ⟨(mi_in 190 (by decide +kernel) (by decide +kernel)), (mi_inS 4 (by decide +kernel) (by decide +kernel))⟩), (fun h => absurd h (by decide)), by decide, by decide⟩
set_option maxRecDepth 100000 in
theorem mi_r5 : mi_okm mi_m5 := ⟨mi_k5, (mi_in 224 rfl (by decide +kernel)), by decide +kernel, (mi_in 2 (by decide +kernel) (by decide +kernel)), rfl, by decide +kernel, (fun h => absurd h (by decide)), (fun _ => ⟨(mi_in 223 (by decide +kernel) (by decide +kernel)), (mi_inS 12 (by decide +kernel) (by decide +kernel))⟩), (fun h => absurd h (by decide)), by decide, by decide⟩
set_option maxRecDepth 100000 in
theorem mi_r6 : mi_okm mi_m6 := ⟨mi_k6, (mi_in 212 rfl (by decide +kernel)), by decide +kernel, (mi_in 2 (by decide +kernel) (by decide +kernel)), rfl, by decide +kernel, (fun h => absurd h (by decide)), (fun _ => ⟨(mi_in 211 (by decide +kernel) (by decide +kernel)), (mi_inS 9 (by decide +kernel) (by decide +kernel))⟩), (fun h => absurd h (by decide)), by decide, by decide⟩
set_option maxRecDepth 100000 in
theorem mi_r7 : mi_okm mi_m7 := ⟨mi_k7, (mi_in 199 rfl (by decide +kernel)), by decide +kernel, (mi_in 2 (by decide +kernel) (by decide +kernel)), rfl, by decide +kernel, (fun h => absurd h (by decide)), (fun _ => ⟨(mi_in 198 (by decide +kernel) (by decide +kernel)), (mi_inS 6 (by decide +kernel) (by decide +kernel))⟩), (fun h => absurd h (by decide)), by decide, by decide⟩
set_option maxRecDepth 100000 in
theorem mi_r8 : mi_okm mi_m8 := ⟨mi_k8, (mi_in 203 rfl (by decide +kernel)), by decide +kernel, (mi_in 2 (by decide +kernel) (by decide +kernel)), rfl, by decide +kernel, (fun h => absurd h (by decide)), (fun _ => ⟨(mi_in 202 (by decide +kernel) (by decide +kernel)), (mi_inS 7 (by decide +kernel) (by decide +kernel))⟩), (fun h => absurd h (by decide)), by decide, by decide⟩
set_option maxRecDepth 100000 in
theorem mi_r9 : mi_okm mi_m9 := ⟨mi_k9, (mi_in 207 rfl (by decide +kernel)), by decide +kernel, (mi_in 2 (by decide +kernel) (by decide +kernel)), rfl, by decide +kernel, (fun h => absurd h (by decide)), (fun _ => ⟨(mi_in 206 (by decide +kernel) (by decide +kernel)), (mi_inS 8 (by decide +kernel) (by decide +kernel))⟩), (fun h => absurd h (by decide)), by decide, by decide⟩
set_option maxRecDepth 100000 in
theorem mi_r10 : mi_okm mi_m10 := ⟨mi_k10, (mi_in 216 rfl (by decide +kernel)), by decide +kernel, (mi_in 2 (by decide +kernel) (by decide +kernel)), rfl, by decide +kernel, (fun h => absurd h (by decide)), (fun _ => ⟨(mi_in 215 (by decide +kernel) (by decide +kernel)), (mi_inS 10 (by decide +kernel) (by decide +kernel))⟩), (fun h => absurd h (by decide)), by decide, by decide⟩
set_option maxRecDepth 100000 in
theorem mi_r11 : mi_okm mi_m11 := ⟨mi_k11, (mi_in 220 rfl (by decide +kernel)), by decide +kernel, (mi_in 2 (by decide +kernel) (by decide +kernel)), rfl, by decide +kernel, (fun h => absurd h (by decide)), (fun _ => ⟨(mi_in 219 (by decide +kernel) (by decide +kernel)), (mi_inS 11 (by decide +kernel) (by decide +kernel))⟩), (fun h => absurd h (by decide)), by decide, by decide⟩
set_option maxRecDepth 100000 in
theorem mi_r12 : mi_okm mi_m12 := ⟨mi_k12, (mi_in 229 rfl (by decide +kernel)), by decide +kernel, (mi_in 2 (by decide +kernel) (by decide +kernel)), rfl, by decide +kernel, (fun h => absurd h (by decide)), (fun _ => ⟨(mi_in 228 (by decide +kernel) (by decide +kernel)), (mi_inS 13 (by decide +kernel) (by decide +kernel))⟩), (fun h => absurd h (by decide)), by decide, by decide⟩
set_option maxRecDepth 100000 in
theorem mi_r13 : mi_okm mi_m13 := ⟨mi_k13, (mi_in 233 rfl (by decide +kernel)), by decide +kernel, (mi_in 2 (by decide +kernel) (by decide +kernel)), rfl, by decide +kernel, (fun h => absurd h (by decide)), (fun _ => ⟨(mi_in 232 (by decide +kernel) (by decide +kernel)), (mi_inS 14 (by decide +kernel) (by decide +kernel))⟩), (fun h => absurd h (by decide)), by decide, by decide⟩
set_option maxRecDepth 100000 in
theorem mi_r14 : mi_okm mi_m14 := ⟨mi_k14, (mi_in 103 rfl (by decide +kernel)), by decide +kernel, (mi_in 5 (by decide +kernel) (by decide +kernel)), rfl, by decide +kernel, (fun h => absurd h (by decide)), (fun h => absurd h (by decide)), (fun _ => ⟨(mi_in 102 (by decide +kernel) (by decide +kernel)), rfl, rfl⟩), by decide, by decide⟩
set_option maxRecDepth 100000 in
theorem mi_r15 : mi_okm mi_m15 := ⟨mi_k15, (mi_in 177 rfl (by decide +kernel)), by decide +kernel, (mi_in 5 (by decide +kernel) (by decide +kernel)), rfl, by decide +kernel, (fun h => absurd h (by decide)), (fun _ => ⟨(mi_in 176 (by decide +kernel) (by decide +kernel)), (mi_inS 1 (by decide +kernel) (by decide +kernel))⟩), (fun h => absurd h (by decide)), by decide, by decide⟩
set_option maxRecDepth 100000 in
theorem mi_r16 : mi_okm mi_m16 := ⟨mi_k16, (mi_in 182 rfl (by decide +kernel)), by decide +kernel, (mi_in 5 (by decide +kernel) (by decide +kernel)), rfl, by decide +kernel, (fun h => absurd h (by decide)), (fun _ => ⟨(mi_in 181 (by decide +kernel) (by decide +kernel)), (mi_inS 2 (by decide +kernel) (by decide +kernel))⟩), (fun h => absurd h (by decide)), by decide, by decide⟩
set_option maxRecDepth 100000 in
theorem mi_r17 : mi_okm mi_m17 := ⟨mi_k17, (mi_in 285 rfl (by decide +kernel)), by decide +kernel, (mi_in 5 (by decide +kernel) (by decide +kernel)), rfl, by decide +kernel, (fun h => absurd h (by decide)), (fun _ => ⟨(mi_in 284 (by decide +kernel) (by decide +kernel)), (mi_inS 18 (by decide +kernel) (by decide +kernel))⟩), (fun h => absurd h (by decide)), by decide, by decide⟩
set_option maxRecDepth 100000 in
theorem mi_r18 : mi_okm mi_m18 := ⟨mi_k18, (mi_in 258 rfl (by decide +kernel)), by decide +kernel, (mi_in 5 (by decide +kernel) (by decide +kernel)), rfl, by decide +kernel, (fun h => absurd h (by decide)), (fun _ => ⟨(mi_in 257 (by decide +kernel) (by decide +kernel)), (mi_inS 16 (by decide +kernel) (by decide +kernel))⟩), (fun h => absurd h (by decide)), by decide, by decide⟩
set_option maxRecDepth 100000 in
theorem mi_r19 : mi_okm mi_m19 := ⟨mi_k19, (mi_in 313 rfl (by decide +kernel)), by decide +kernel, (mi_in 5 (by decide +kernel) (by decide +kernel)), rfl, by decide +kernel, (fun _ => (mi_in 312 (by decide +kernel) (by decide +kernel))), (fun h => absurd h (by decide)), (fun h => absurd h (by decide)), by decide, by decide⟩
set_option maxRecDepth 100000 in
theorem mi_r20 : mi_okm mi_m20 := ⟨mi_k20, (mi_in 317 rfl (by decide +kernel)), by decide +kernel, (mi_in 5 (by decide +kernel) (by decide +kernel)), rfl, by decide +kernel, (fun h => absurd h (by decide)), (fun _ => ⟨(mi_in 316 (by decide +kernel) (by decide +kernel)), (mi_inS 21 (by decide +kernel) (by decide +kernel))⟩), (fun h => absurd h (by decide)), by decide, by decide⟩
set_option maxRecDepth 100000 in
theorem mi_r21 : mi_okm mi_m21 := ⟨mi_k21, (mi_in 99 rfl (by decide +kernel)), by decide +kernel, (mi_in 3 (by decide +kernel) (by decide +kernel)), rfl, by decide +kernel, (fun _ => (mi_in 98 (by decide +kernel) (by decide +kernel))), (fun h => absurd h (by decide)), (fun h => absurd h (by decide)), by decide, by decide⟩
set_option maxRecDepth 100000 in
theorem mi_r22 : mi_okm mi_m22 := ⟨mi_k22, (mi_in 32 rfl (by decide +kernel)), by decide +kernel, (mi_in 3 (by decide +kernel) (by decide +kernel)), rfl, by decide +kernel, (fun _ => (mi_in 31 (by decide +kernel) (by decide +kernel))), (fun h => absurd h (by decide)), (fun h => absurd h (by decide)), by decide, by decide⟩
set_option maxRecDepth 100000 in
theorem mi_r23 : mi_okm mi_m23 := ⟨mi_k23, (mi_in 116 rfl (by decide +kernel)), by decide +kernel, (mi_in 3 (by decide +kernel) (by decide +kernel)), rfl, by decide +kernel, (fun _ => (mi_in 115 (by decide +kernel) (by decide +kernel))), (fun h => absurd h (by decide)), (fun h => absurd h (by decide)), by decide, by decide⟩
set_option maxRecDepth 100000 in
theorem mi_r24 : mi_okm mi_m24 := ⟨mi_k24, (mi_in 29 rfl (by decide +kernel)), by decide +kernel, (mi_in 3 (by decide +kernel) (by decide +kernel)), rfl, by decide +kernel, (fun _ => (mi_in 28 (by decide +kernel) (by decide +kernel))), (fun h => absurd h (by decide)), (fun h => absurd h (by decide)), by decide, by decide⟩
set_option maxRecDepth 100000 in
theorem mi_r25 : mi_okm mi_m25 := ⟨mi_k25, (mi_in 50 rfl (by decide +kernel)), by decide +kernel, (mi_in 3 (by decide +kernel) (by decide +kernel)), rfl, by decide +kernel, (fun _ => (mi_in 49 (by decide +kernel) (by decide +kernel))), (fun h => absurd h (by decide)), (fun h => absurd h (by decide)), by decide, by decide⟩
set_option maxRecDepth 100000 in
theorem mi_r26 : mi_okm mi_m26 := ⟨mi_k26, (mi_in 37 rfl (by decide +kernel)), by decide +kernel, (mi_in 3 (by decide +kernel) (by decide +kernel)), rfl, by decide +kernel, (fun _ => (mi_in 36 (by decide +kernel) (by decide +kernel))), (fun h => absurd h (by decide)), (fun h => absurd h (by decide)), by decide, by decide⟩
set_option maxRecDepth 100000 in
theorem mi_r27 : mi_okm mi_m27 := ⟨mi_k27, (mi_in 45 rfl (by decide +kernel)), by decide +kernel, (mi_in 3 (by decide +kernel) (by decide +kernel)), rfl, by decide +kernel, (fun _ => (mi_in 44 (by decide +kernel) (by decide +kernel))), (fun h => absurd h (by decide)), (fun h => absurd h (by decide)), by decide, by decide⟩
set_option maxRecDepth 100000 in
theorem mi_r28 : mi_okm mi_m28 := ⟨mi_k28, (mi_in 113 rfl (by decide +kernel)), by decide +kernel, (mi_in 3 (by decide +kernel) (by decide +kernel)), rfl, by decide +kernel, (fun _ => (mi_in 112 (by decide +kernel) (by decide +kernel))), (fun h => absurd h (by decide)), (fun h => absurd h (by decide)), by decide, by decide⟩
set_option maxRecDepth 100000 in
theorem mi_r29 : mi_okm mi_m29 := ⟨mi_k29, (mi_in 26 rfl (by decide +kernel)), by decide +kernel, (mi_in 3 (by decide +kernel) (by decide +kernel)), rfl, by decide +kernel, (fun _ => (mi_in 25 (by decide +kernel) (by decide +kernel))), (fun h => absurd h (by decide)), (fun h => absurd h (by decide)), by decide, by decide⟩
set_option maxRecDepth 100000 in
theorem mi_r30 : mi_okm mi_m30 := ⟨mi_k30, (mi_in 53 rfl (by decide +kernel)), by decide +kernel, (mi_in 3 (by decide +kernel) (by decide +kernel)), rfl, by decide +kernel, (fun _ => (mi_in 52 (by decide +kernel) (by decide +kernel))), (fun h => absurd h (by decide)), (fun h => absurd h (by decide)), by decide, by decide⟩
set_option maxRecDepth 100000 in
theorem mi_r31 : mi_okm mi_m31 := ⟨mi_k31, (mi_in 42 rfl (by decide +kernel)), by decide +kernel, (mi_in 3 (by decide +kernel) (by decide +kernel)), rfl, by decide +kernel, (fun _ => (mi_in 41 (by decide +kernel) (by decide +kernel))), (fun h => absurd h (by decide)), (fun h => absurd h (by decide)), by decide, by decide⟩
set_option maxRecDepth 100000 in
theorem mi_r32 : mi_okm mi_m32 := ⟨mi_k32, (mi_in 107 rfl (by decide +kernel)), by decide +kernel, (mi_in 3 (by decide +kernel) (by decide +kernel)), rfl, by decide +kernel, (fun _ => (mi_in 106 (by decide +kernel) (by decide +kernel))), (fun h => absurd h (by decide)), (fun h => absurd h (by decide)), by decide, by decide⟩
set_option maxRecDepth 100000 in
theorem mi_r33 : mi_okm mi_m33 := ⟨mi_k33, (mi_in 110 rfl (by decide +kernel)), by decide +kernel, (mi_in 3 (by decide +kernel) (by decide +kernel)), rfl, by decide +kernel, (fun _ => (mi_in 109 (by decide +kernel) (by decide +kernel))), (fun h => absurd h (by decide)), (fun h => absurd h (by decide)), by decide, by decide⟩
set_option maxRecDepth 100000 in
theorem mi_r34 : mi_okm mi_m34 := ⟨mi_k34, (mi_in 23 rfl (by decide +kernel)), by decide +kernel, (mi_in 3 (by decide +kernel) (by decide +kernel)), rfl, by decide +kernel, (fun _ => (mi_in 22 (by decide +kernel) (by decide +kernel))), (fun h => absurd h (by decide)), (fun h => absurd h (by decide)), by decide, by decide⟩
set_option maxRecDepth 100000 in
theorem mi_r35 : mi_okm mi_m35 := ⟨mi_k35, (mi_in 263 rfl (by decide +kernel)), by decide +kernel, (mi_in 6 (by decide +kernel) (by decide +kernel)), rfl, by decide +kernel, (fun h => absurd h (by decide)), (fun h => absurd h (by decide)), (fun _ => ⟨(mi_in 262 (by decide +kernel) (by decide +kernel)), rfl, rfl⟩), by decide, by decide⟩
set_option maxRecDepth 100000 in
theorem mi_r36 : mi_okm mi_m36 := ⟨mi_k36, (mi_in 11 rfl (by decide +kernel)), by decide +kernel, (mi_in 1 (by decide +kernel) (by decide +kernel)), rfl, by decide +kernel, (fun h => absurd h (by decide)), (fun h => absurd h (by decide)), (fun _ => ⟨(mi_in 10 (by decide +kernel) (by decide +kernel)), rfl, rfl⟩), by decide, by decide⟩
set_option maxRecDepth 100000 in
theorem mi_r37 : mi_okm mi_m37 := ⟨mi_k37, (mi_in 96 rfl (by decide +kernel)), by decide +kernel, (mi_in 1 (by decide +kernel) (by decide +kernel)), rfl, by decide +kernel, (fun h => absurd h (by decide)), (fun _ => ⟨(mi_in 94 (by decide +kernel) (by decide +kernel)), (mi_in 95 (by decide +kernel) (by decide +kernel))⟩), (fun h => absurd h (by decide)), by decide, by decide⟩
set_option maxRecDepth 100000 in
theorem mi_r38 : mi_okm mi_m38 := ⟨mi_k38, (mi_in 164 rfl (by decide +kernel)), by decide +kernel, (mi_in 1 (by decide +kernel) (by decide +kernel)), rfl, by decide +kernel, (fun h => absurd h (by decide)), (fun _ => ⟨(mi_in 162 (by decide +kernel) (by decide +kernel)), (mi_in 163 (by decide +kernel) (by decide +kernel))⟩), (fun h => absurd h (by decide)), by decide, by decide⟩
set_option maxRecDepth 100000 in
theorem mi_r39 : mi_okm mi_m39 := ⟨mi_k39, (mi_in 237 rfl (by decide +kernel)), by decide +kernel, (mi_in 1 (by decide +kernel) (by decide +kernel)), rfl, by decide +kernel, (fun h => absurd h (by decide)), (fun _ => ⟨(mi_in 235 (by decide +kernel) (by decide +kernel)), (mi_in 236 (by decide +kernel) (by decide +kernel))⟩), (fun h => absurd h (by decide)), by decide, by decide⟩
set_option maxRecDepth 100000 in
theorem mi_r40 : mi_okm mi_m40 := ⟨mi_k40, (mi_in 246 rfl (by decide +kernel)), by decide +kernel, (mi_in 1 (by decide +kernel) (by decide +kernel)), rfl, by decide +kernel, (fun h => absurd h (by decide)), (fun _ => ⟨(mi_in 244 (by decide +kernel) (by decide +kernel)), (mi_in 245 (by decide +kernel) (by decide +kernel))⟩), (fun h => absurd h (by decide)), by decide, by decide⟩
set_option maxRecDepth 100000 in
theorem mi_r41 : mi_okm mi_m41 := ⟨mi_k41, (mi_in 254 rfl (by decide +kernel)), by decide +kernel, (mi_in 1 (by decide +kernel) (by decide +kernel)), rfl, by decide +kernel, (fun h => absurd h (by decide)), (fun _ => ⟨(mi_in 252 (by decide +kernel) (by decide +kernel)), (mi_in 253 (by decide +kernel) (by decide +kernel))⟩), (fun h => absurd h (by decide)), by decide, by decide⟩
set_option maxRecDepth 100000 in
theorem mi_r42 : mi_okm mi_m42 := ⟨mi_k42, (mi_in 277 rfl (by decide +kernel)), by decide +kernel, (mi_in 1 (by decide +kernel) (by decide +kernel)), rfl, by decide +kernel, (fun h => absurd h (by decide)), (fun _ => ⟨(mi_in 275 (by decide +kernel) (by decide +kernel)), (mi_in 276 (by decide +kernel) (by decide +kernel))⟩), (fun h => absurd h (by decide)), by decide, by decide⟩
set_option maxRecDepth 100000 in
theorem mi_r43 : mi_okm mi_m43 := ⟨mi_k43, (mi_in 294 rfl (by decide +kernel)), by decide +kernel, (mi_in 1 (by decide +kernel) (by decide +kernel)), rfl, by decide +kernel, (fun h => absurd h (by decide)), (fun _ => ⟨(mi_in 292 (by decide +kernel) (by decide +kernel)), (mi_in 293 (by decide +kernel) (by decide +kernel))⟩), (fun h => absurd h (by decide)), by decide, by decide⟩
set_option maxRecDepth 100000 in
theorem mi_r44 : mi_okm mi_m44 := ⟨mi_k44, (mi_in 298 rfl (by decide +kernel)), by decide +kernel, (mi_in 1 (by decide +kernel) (by decide +kernel)), rfl, by decide +kernel, (fun h => absurd h (by decide)), (fun _ => ⟨(mi_in 296 (by decide +kernel) (by decide +kernel)), (mi_in 297 (by decide +kernel) (by decide +kernel))⟩), (fun h => absurd h (by decide)), by decide, by decide⟩
set_option maxRecDepth 100000 in
theorem mi_r45 : mi_okm mi_m45 := ⟨mi_k45, (mi_in 306 rfl (by decide +kernel)), by decide +kernel, (mi_in 1 (by decide +kernel) (by decide +kernel)), rfl, by decide +kernel, (fun h => absurd h (by decide)), (fun _ => ⟨(mi_in 304 (by decide +kernel) (by decide +kernel)), (mi_in 305 (by decide +kernel) (by decide +kernel))⟩), (fun h => absurd h (by decide)), by decide, by decide⟩
set_option maxRecDepth 100000 in
theorem mi_r46 : mi_okm mi_m46 := ⟨mi_k46, (mi_in 310 rfl (by decide +kernel)), by decide +kernel, (mi_in 1 (by decide +kernel) (by decide +kernel)), rfl, by decide +kernel, (fun h => absurd h (by decide)), (fun _ => ⟨(mi_in 308 (by decide +kernel) (by decide +kernel)), (mi_in 309 (by decide +kernel) (by decide +kernel))⟩), (fun h => absurd h (by decide)), by decide, by decide⟩
set_option maxRecDepth 100000 in
theorem mi_r47 : mi_okm mi_m47 := ⟨mi_k47, (mi_in 321 rfl (by decide +kernel)), by decide +kernel, (mi_in 1 (by decide +kernel) (by decide +kernel)), rfl, by decide +kernel, (fun h => absurd h (by decide)), (fun _ => ⟨(mi_in 319 (by decide +kernel) (by decide +kernel)), (mi_in 320 (by decide +kernel) (by decide +kernel))⟩), (fun h => absurd h (by decide)), by decide, by decide⟩
set_option maxRecDepth 100000 in
theorem mi_r48 : mi_okm mi_m48 := ⟨mi_k48, (mi_in 329 rfl (by decide +kernel)), by decide +kernel, (mi_in 1 (by decide +kernel) (by decide +kernel)), rfl, by decide +kernel, (fun h => absurd h (by decide)), (fun _ => ⟨(mi_in 327 (by decide +kernel) (by decide +kernel)), (mi_in 328 (by decide +kernel) (by decide +kernel))⟩), (fun h => absurd h (by decide)), by decide, by decide⟩
set_option maxRecDepth 100000 in
theorem mi_r49 : mi_okm mi_m49 := ⟨mi_k49, (mi_in 168 rfl (by decide +kernel)), by decide +kernel, (mi_in 1 (by decide +kernel) (by decide +kernel)), rfl, by decide +kernel, (fun h => absurd h (by decide)), (fun _ => ⟨(mi_in 167 (by decide +kernel) (by decide +kernel)), (mi_inS 0 (by decide +kernel) (by decide +kernel))⟩), (fun h => absurd h (by decide)), by decide, by decide⟩
set_option maxRecDepth 100000 in
theorem mi_r50 : mi_okm mi_m50 := ⟨mi_k50, (mi_in 171 rfl (by decide +kernel)), by decide +kernel, (mi_in 1 (by decide +kernel) (by decide +kernel)), rfl, by decide +kernel, (fun _ => (mi_in 170 (by decide +kernel) (by decide +kernel))), (fun h => absurd h (by decide)), (fun h => absurd h (by decide)), by decide, by decide⟩
set_option maxRecDepth 100000 in
theorem mi_r51 : mi_okm mi_m51 := ⟨mi_k51, (mi_in 240 rfl (by decide +kernel)), by decide +kernel, (mi_in 1 (by decide +kernel) (by decide +kernel)), rfl, by decide +kernel, (fun _ => (mi_in 239 (by decide +kernel) (by decide +kernel))), (fun h => absurd h (by decide)), (fun h => absurd h (by decide)), by decide, by decide⟩
set_option maxRecDepth 100000 in
theorem mi_r52 : mi_okm mi_m52 := ⟨mi_k52, (mi_in 250 rfl (by decide +kernel)), by decide +kernel, (mi_in 1 (by decide +kernel) (by decide +kernel)), rfl, by decide +kernel, (fun h => absurd h (by decide)), (fun _ => ⟨(mi_in 249 (by decide +kernel) (by decide +kernel)), (mi_inS 15 (by decide +kernel) (by decide +kernel))⟩), (fun h => absurd h (by decide)), by decide, by decide⟩
set_option maxRecDepth 100000 in
theorem mi_r53 : mi_okm mi_m53 := ⟨mi_k53, (mi_in 281 rfl (by decide +kernel)), by decide +kernel, (mi_in 1 (by decide +kernel) (by decide +kernel)), rfl, by decide +kernel, (fun h => absurd h (by decide)), (fun _ => ⟨(mi_in 280 (by decide +kernel) (by decide +kernel)), (mi_inS 17 (by decide +kernel) (by decide +kernel))⟩), (fun h => absurd h (by decide)), by decide, by decide⟩
set_option maxRecDepth 100000 in
theorem mi_r54 : mi_okm mi_m54 := ⟨mi_k54, (mi_in 290 rfl (by decide +kernel)), by decide +kernel, (mi_in 1 (by decide +kernel) (by decide +kernel)), rfl, by decide +kernel, (fun h => absurd h (by decide)), (fun _ => ⟨(mi_in 289 (by decide +kernel) (by decide +kernel)), (mi_inS 19 (by decide +kernel) (by decide +kernel))⟩), (fun h => absurd h (by decide)), by decide, by decide⟩
set_option maxRecDepth 100000 in
theorem mi_r55 : mi_okm mi_m55 := ⟨mi_k55, (mi_in 325 rfl (by decide +kernel)), by decide +kernel, (mi_in 1 (by decide +kernel) (by decide +kernel)), rfl, by decide +kernel, (fun h => absurd h (by decide)), (fun _ => ⟨(mi_in 324 (by decide +kernel) (by decide +kernel)), (mi_inS 22 (by decide +kernel) (by decide +kernel))⟩), (fun h => absurd h (by decide)), by decide, by decide⟩
set_option maxRecDepth 100000 in
theorem mi_r56 : mi_okm mi_m56 := ⟨mi_k56, (mi_in 334 rfl (by decide +kernel)), by decide +kernel, (mi_in 4 (by decide +kernel) (by decide +kernel)), rfl, by decide +kernel, (fun h => absurd h (by decide)), (fun h => absurd h (by decide)), (fun _ => ⟨(mi_in 333 (by decide +kernel) (by decide +kernel)), rfl, rfl⟩), by decide, by decide⟩
set_option maxRecDepth 100000 in
theorem mi_r57 : mi_okm mi_m57 := ⟨mi_k57, (mi_in 349 rfl (by decide +kernel)), by decide +kernel, (mi_in 4 (by decide +kernel) (by decide +kernel)), rfl, by decide +kernel, (fun _ => (mi_in 348 (by decide +kernel) (by decide +kernel))), (fun h => absurd h (by decide)), (fun h => absurd h (by decide)), by decide, by decide⟩
set_option maxRecDepth 100000 in
theorem mi_r58 : mi_okm mi_m58 := ⟨mi_k58, (mi_in 339 rfl (by decide +kernel)), by decide +kernel, (mi_in 4 (by decide +kernel) (by decide +kernel)), rfl, by decide +kernel, (fun h => absurd h (by decide)), (fun _ => ⟨(mi_in 338 (by decide +kernel) (by decide +kernel)), (mi_inS 23 (by decide +kernel) (by decide +kernel))⟩), (fun h => absurd h (by decide)), by decide, by decide⟩
set_option maxRecDepth 100000 in
theorem mi_r59 : mi_okm mi_m59 := ⟨mi_k59, (mi_in 346 rfl (by decide +kernel)), by decide +kernel, (mi_in 4 (by decide +kernel) (by decide +kernel)), rfl, by decide +kernel, (fun _ => (mi_in 345 (by decide +kernel) (by decide +kernel))), (fun h => absurd h (by decide)), (fun h => absurd h (by decide)), by decide, by decide⟩
set_option maxRecDepth 100000 in
theorem mi_r60 : mi_okm mi_m60 := ⟨mi_k60, (mi_in 343 rfl (by decide +kernel)), by decide +kernel, (mi_in 4 (by decide +kernel) (by decide +kernel)), rfl, by decide +kernel, (fun h => absurd h (by decide)), (fun _ => ⟨(mi_in 342 (by decide +kernel) (by decide +kernel)), (mi_inS 24 (by decide +kernel) (by decide +kernel))⟩), (fun h => absurd h (by decide)), by decide, by decide⟩
set_option maxRecDepth 100000 in
theorem mi_r61 : mi_okm mi_m61 := ⟨mi_k61, (mi_in 357 rfl (by decide +kernel)), by decide +kernel, (mi_in 4 (by decide +kernel) (by decide +kernel)), rfl, by decide +kernel, (fun h => absurd h (by decide)), (fun _ => ⟨(mi_in 356 (by decide +kernel) (by decide +kernel)), (mi_inS 26 (by decide +kernel) (by decide +kernel))⟩), (fun h => absurd h (by decide)), by decide, by decide⟩
set_option maxRecDepth 100000 in
theorem mi_r62 : mi_okm mi_m62 := ⟨mi_k62, (mi_in 353 rfl (by decide +kernel)), by decide +kernel, (mi_in 4 (by decide +kernel) (by decide +kernel)), rfl, by decide +kernel, (fun h => absurd h (by decide)), (fun _ => ⟨(mi_in 352 (by decide +kernel) (by decide +kernel)), (mi_inS 25 (by decide +kernel) (by decide +kernel))⟩), (fun h => absurd h (by decide)), by decide, by decide⟩
set_option maxRecDepth 100000 in
theorem mi_r63 : mi_okm mi_m63 := ⟨mi_k63, (mi_in 501 rfl (by decide +kernel)), by decide +kernel, (mi_in 4 (by decide +kernel) (by decide +kernel)), rfl, by decide +kernel, (fun h => absurd h (by decide)), (fun _ => ⟨(mi_in 500 (by decide +kernel) (by decide +kernel)), (mi_inS 37 (by decide +kernel) (by decide +kernel))⟩), (fun h => absurd h (by decide)), by decide, by decide⟩
set_option maxRecDepth 100000 in
theorem mi_r64 : mi_okm mi_m64 := ⟨mi_k64, (mi_in 493 rfl (by decide +kernel)), by decide +kernel, (mi_in 4 (by decide +kernel) (by decide +kernel)), rfl, by decide +kernel, (fun h => absurd h (by decide)), (fun _ => ⟨(mi_in 492 (by decide +kernel) (by decide +kernel)), (mi_inS 35 (by decide +kernel) (by decide +kernel))⟩), (fun h => absurd h (by decide)), by decide, by decide⟩
set_option maxRecDepth 100000 in
theorem mi_r65 : mi_okm mi_m65 := ⟨mi_k65, (mi_in 489 rfl (by decide +kernel)), by decide +kernel, (mi_in 4 (by decide +kernel) (by decide +kernel)), rfl, by decide +kernel, (fun h => absurd h (by decide)), (fun _ => ⟨(mi_in 488 (by decide +kernel) (by decide +kernel)), (mi_inS 34 (by decide +kernel) (by decide +kernel))⟩), (fun h => absurd h (by decide)), by decide, by decide⟩
set_option maxRecDepth 100000 in
theorem mi_r66 : mi_okm mi_m66 := ⟨mi_k66, (mi_in 485 rfl (by decide +kernel)), by decide +kernel, (mi_in 4 (by decide +kernel) (by decide +kernel)), rfl, by decide +kernel, (fun h => absurd h (by decide)), (fun _ => ⟨(mi_in 484 (by decide +kernel) (by decide +kernel)), (mi_inS 33 (by decide +kernel) (by decide +kernel))⟩), (fun h => absurd h (by decide)), by decide, by decide⟩
set_option maxRecDepth 100000 in
theorem mi_r67 : mi_okm mi_m67 := ⟨mi_k67, (mi_in 497 rfl (by decide +kernel)), by decide +kernel, (mi_in 4 (by decide +kernel) (by decide +kernel)), rfl, by decide +kernel, (fun h => absurd h (by decide)), (fun _ => ⟨(mi_in 496 (by decide +kernel) (by decide +kernel)), (mi_inS 36 (by decide +kernel) (by decide +kernel))⟩), (fun h => absurd h (by decide)), by decide, by decide⟩
set_option maxRecDepth 100000 in
theorem mi_r68 : mi_okm mi_m68 := ⟨mi_k68, (mi_in 459 rfl (by decide +kernel)), by decide +kernel, (mi_in 4 (by decide +kernel) (by decide +kernel)), rfl, by decide +kernel, (fun h => absurd h (by decide)), (fun _ => ⟨(mi_in 458 (by decide +kernel) (by decide +kernel)), (mi_inS 28 (by decide +kernel) (by decide +kernel))⟩), (fun h => absurd h (by decide)), by decide, by decide⟩
set_option maxRecDepth 100000 in
theorem mi_r69 : mi_okm mi_m69 := ⟨mi_k69, (mi_in 462 rfl (by decide +kernel)), by decide +kernel, (mi_in 4 (by decide +kernel) (by decide +kernel)), rfl, by decide +kernel, (fun _ => (mi_in 461 (by decide +kernel) (by decide +kernel))), (fun h => absurd h (by decide)), (fun h => absurd h (by decide)), by decide, by decide⟩
set_option maxRecDepth 100000 in
theorem mi_r70 : mi_okm mi_m70 := ⟨mi_k70, (mi_in 465 rfl (by decide +kernel)), by decide +kernel, (mi_in 4 (by decide +kernel) (by decide +kernel)), rfl, by decide +kernel, (fun _ => (mi_in 464 (by decide +kernel) (by decide +kernel))), (fun h => absurd h (by decide)), (fun h => absurd h (by decide)), by decide, by decide⟩
set_option maxRecDepth 100000 in
theorem mi_r71 : mi_okm mi_m71 := ⟨mi_k71, (mi_in 469 rfl (by decide +kernel)), by decide +kernel, (mi_in 4 (by decide +kernel) (by decide +kernel)), rfl, by decide +kernel, (fun h => absurd h (by decide)), (fun _ => ⟨(mi_in 468 (by decide +kernel) (by decide +kernel)), (mi_inS 29 (by decide +kernel) (by decide +kernel))⟩), (fun h => absurd h (by decide)), by decide, by decide⟩
set_option maxRecDepth 100000 in
theorem mi_r72 : mi_okm mi_m72 := ⟨mi_k72, (mi_in 473 rfl (by decide +kernel)), by decide +kernel, (mi_in 4 (by decide +kernel) (by decide +kernel)), rfl, by decide +kernel, (fun h => absurd h (by decide)), (fun _ => ⟨(mi_in 472 (by decide +kernel) (by decide +kernel)), (mi_inS 30 (by decide +kernel) (by decide +kernel))⟩), (fun h => absurd h (by decide)), by decide, by decide⟩
set_option maxRecDepth 100000 in
theorem mi_r73 : mi_okm mi_m73 := ⟨mi_k73, (mi_in 477 rfl (by decide +kernel)), by decide +kernel, (mi_in 4 (by decide +kernel) (by decide +kernel)), rfl, by decide +kernel, (fun h => absurd h (by decide)), (fun _ => ⟨(mi_in 476 (by decide +kernel) (by decide +kernel)), (mi_inS 31 (by decide +kernel) (by decide +kernel))⟩), (fun h => absurd h (by decide)), by decide, by decide⟩
set_option maxRecDepth 100000 in
theorem mi_r74 : mi_okm mi_m74 := ⟨mi_k74, (mi_in 455 rfl (by decide +kernel)), by decide +kernel, (mi_in 4 (by decide +kernel) (by decide +kernel)), rfl, by decide +kernel, (fun h => absurd h (by decide)), (fun _ => ⟨(mi_in 454 (by decide +kernel) (by decide +kernel)), (mi_inS 27 (by decide +kernel) (by decide +kernel))⟩), (fun h => absurd h (by decide)), by decide, by decide⟩
set_option maxRecDepth 100000 in
theorem mi_r75 : mi_okm mi_m75 := ⟨mi_k75, (mi_in 481 rfl (by decide +kernel)), by decide +kernel, (mi_in 4 (by decide +kernel) (by decide +kernel)), rfl, by decide +kernel, (fun h => absurd h (by decide)), (fun _ => ⟨(mi_in 480 (by decide +kernel) (by decide +kernel)), (mi_inS 32 (by decide +kernel) (by decide +kernel))⟩), (fun h => absurd h (by decide)), by decide, by decide⟩
set_option maxRecDepth 100000 in
theorem mi_r76 : mi_okm mi_m76 := ⟨mi_k76, (mi_in 447 rfl (by decide +kernel)), by decide +kernel, (mi_in 4 (by decide +kernel) (by decide +kernel)), rfl, by decide +kernel, (fun h => absurd h (by decide)), (fun _ => ⟨(mi_in 445 (by decide +kernel) (by decide +kernel)), (mi_in 446 (by decide +kernel) (by decide +kernel))⟩), (fun h => absurd h (by decide)), by decide, by decide⟩
set_option maxRecDepth 100000 in
theorem mi_r77 : mi_okm mi_m77 := ⟨mi_k77, (mi_in 451 rfl (by decide +kernel)), by decide +kernel, (mi_in 4 (by decide +kernel) (by decide +kernel)), rfl, by decide +kernel, (fun h => absurd h (by decide)), (fun _ => ⟨(mi_in 449 (by decide +kernel) (by decide +kernel)), (mi_in 450 (by decide +kernel) (by decide +kernel))⟩), (fun h => absurd h (by decide)), by decide, by decide⟩
set_option maxRecDepth 100000 in
theorem mi_r78 : mi_okm mi_m78 := ⟨mi_k78, (mi_in 505 rfl (by decide +kernel)), by decide +kernel, (mi_in 4 (by decide +kernel) (by decide +kernel)), rfl, by decide +kernel, (fun h => absurd h (by decide)), (fun _ => ⟨(mi_in 503 (by decide +kernel) (by decide +kernel)), (mi_in 504 (by decide +kernel) (by decide +kernel))⟩), (fun h => absurd h (by decide)), by decide, by decide⟩
set_option maxRecDepth 100000 in
theorem mi_r79 : mi_okm mi_m79 := ⟨mi_k79, (mi_in 509 rfl (by decide +kernel)), by decide +kernel, (mi_in 4 (by decide +kernel) (by decide +kernel)), rfl, by decide +kernel, (fun h => absurd h (by decide)), (fun _ => ⟨(mi_in 507 (by decide +kernel) (by decide +kernel)), (mi_in 508 (by decide +kernel) (by decide +kernel))⟩), (fun h => absurd h (by decide)), by decide, by decide⟩
set_option maxRecDepth 100000 in
theorem mi_r80 : mi_okm mi_m80 := ⟨mi_k80, (mi_in 513 rfl (by decide +kernel)), by decide +kernel, (mi_in 4 (by decide +kernel) (by decide +kernel)), rfl, by decide +kernel, (fun h => absurd h (by decide)), (fun _ => ⟨(mi_in 511 (by decide +kernel) (by decide +kernel)), (mi_in 512 (by decide +kernel) (by decide +kernel))⟩), (fun h => absurd h (by decide)), by decide, by decide⟩
set_option maxRecDepth 100000 in
theorem mi_r81 : mi_okm mi_m81 := ⟨mi_k81, (mi_in 521 rfl (by decide +kernel)), by decide +kernel, (mi_in 4 (by decide +kernel) (by decide +kernel)), rfl, by decide +kernel, (fun h => absurd h (by decide)), (fun _ => ⟨(mi_in 520 (by decide +kernel) (by decide +kernel)), (mi_inS 38 (by decide +kernel) (by decide +kernel))⟩), (fun h => absurd h (by decide)), by decide, by decide⟩
set_option maxRecDepth 100000 in
theorem mi_r82 : mi_okm mi_m82 := ⟨mi_k82, (mi_in 517 rfl (by decide +kernel)), by decide +kernel, (mi_in 4 (by decide +kernel) (by decide +kernel)), rfl, by decide +kernel, (fun h => absurd h (by decide)), (fun _ => ⟨(mi_in 515 (by decide +kernel) (by decide +kernel)), (mi_in 516 (by decide +kernel) (by decide +kernel))⟩), (fun h => absurd h (by decide)), by decide, by decide⟩
set_option maxRecDepth 100000 in
theorem mi_r83 : mi_okm mi_m83 := ⟨mi_k83, (mi_in 525 rfl (by decide +kernel)), by decide +kernel, (mi_in 4 (by decide +kernel) (by decide +kernel)), rfl, by decide +kernel, (fun h => absurd h (by decide)), (fun _ => ⟨(mi_in 523 (by decide +kernel) (by decide +kernel)), (mi_in 524 (by decide +kernel) (by decide +kernel))⟩), (fun h => absurd h (by decide)), by decide, by decide⟩
set_option maxRecDepth 100000 in
theorem mi_r84 : mi_okm mi_m84 := ⟨mi_k84, (mi_in 529 rfl (by decide +kernel)), by decide +kernel, (mi_in 4 (by decide +kernel) (by decide +kernel)), rfl, by decide +kernel, (fun h => absurd h (by decide)), (fun _ => ⟨(mi_in 527 (by decide +kernel) (by decide +kernel)), (mi_in 528 (by decide +kernel) (by decide +kernel))⟩), (fun h => absurd h (by decide)), by decide, by decide⟩
set_option maxRecDepth 100000 in
theorem mi_r85 : mi_okm mi_m85 := ⟨mi_k85, (mi_in 533 rfl (by decide +kernel)), by decide +kernel, (mi_in 4 (by decide +kernel) (by decide +kernel)), rfl, by decide +kernel, (fun h => absurd h (by decide)), (fun _ => ⟨(mi_in 531 (by decide +kernel) (by decide +kernel)), (mi_in 532 (by decide +kernel) (by decide +kernel))⟩), (fun h => absurd h (by decide)), by decide, by decide⟩
set_option maxRecDepth 100000 in
theorem mi_r86 : mi_okm mi_m86 := ⟨mi_k86, (mi_in 537 rfl (by decide +kernel)), by decide +kernel, (mi_in 4 (by decide +kernel) (by decide +kernel)), rfl, by decide +kernel, (fun h => absurd h (by decide)), (fun _ => ⟨(mi_in 535 (by decide +kernel) (by decide +kernel)), (mi_in 536 (by decide +kernel) (by decide +kernel))⟩), (fun h => absurd h (by decide)), by decide, by decide⟩
set_option maxRecDepth 100000 in
theorem mi_r87 : mi_okm mi_m87 := ⟨mi_k87, (mi_in 541 rfl (by decide +kernel)), by decide +kernel, (mi_in 4 (by decide +kernel) (by decide +kernel)), rfl, by decide +kernel, (fun h => absurd h (by decide)), (fun _ => ⟨(mi_in 539 (by decide +kernel) (by decide +kernel)), (mi_in 540 (by decide +kernel) (by decide +kernel))⟩), (fun h => absurd h (by decide)), by decide, by decide⟩
set_option maxRecDepth 100000 in
theorem mi_r88 : mi_okm mi_m88 := ⟨mi_k88, (mi_in 545 rfl (by decide +kernel)), by decide +kernel, (mi_in 4 (by decide +kernel) (by decide +kernel)), rfl, by decide +kernel, (fun h => absurd h (by decide)), (fun _ => ⟨(mi_in 543 (by decide +kernel) (by decide +kernel)), (mi_in 544 (by decide +kernel) (by decide +kernel))⟩), (fun h => absurd h (by decide)), by decide, by decide⟩
theorem mi_all : ∀ X ∈ mi_L, mi_okm X := List.forall_mem_cons.mpr ⟨mi_r0, List.forall_mem_cons.mpr ⟨mi_r1, List.forall_mem_cons.mpr ⟨mi_r2, List.forall_mem_cons.mpr ⟨mi_r3, List.forall_mem_cons.mpr ⟨mi_r4, List.forall_mem_cons.mpr ⟨mi_r5, List.forall_mem_cons.mpr ⟨mi_r6, List.forall_mem_cons.mpr ⟨mi_r7, List.forall_mem_cons.mpr ⟨mi_r8, List.forall_mem_cons.mpr ⟨mi_r9, List.forall_mem_cons.mpr ⟨mi_r10, List.forall_mem_cons.mpr ⟨mi_r11, List.forall_mem_cons.mpr ⟨mi_r12, List.forall_mem_cons.mpr ⟨mi_r13, List.forall_mem_cons.mpr ⟨mi_r14, List.forall_mem_cons.mpr ⟨mi_r15, List.forall_mem_cons.mpr ⟨mi_r16, List.forall_mem_cons.mpr ⟨mi_r17, List.forall_mem_cons.mpr ⟨mi_r18, List.forall_mem_cons.mpr ⟨mi_r19, List.forall_mem_cons.mpr ⟨mi_r20, List.forall_mem_cons.mpr ⟨mi_r21, List.forall_mem_cons.mpr ⟨mi_r22, List.forall_mem_cons.mpr ⟨mi_r23, List.forall_mem_cons.mpr ⟨mi_r24, List.forall_mem_cons.mpr ⟨mi_r25, List.forall_mem_cons.mpr ⟨mi_r26, List.forall_mem_cons.mpr ⟨mi_r27, List.forall_mem_cons.mpr ⟨mi_r28, List.forall_mem_cons.mpr ⟨mi_r29, List.forall_mem_cons.mpr ⟨mi_r30, List.forall_mem_cons.mpr ⟨mi_r31, List.forall_mem_cons.mpr ⟨mi_r32, List.forall_mem_cons.mpr ⟨mi_r33, List.forall_mem_cons.mpr ⟨mi_r34, List.forall_mem_cons.mpr ⟨mi_r35, List.forall_mem_cons.mpr ⟨mi_r36, List.forall_mem_cons.mpr ⟨mi_r37, List.forall_mem_cons.mpr ⟨mi_r38, List.forall_mem_cons.mpr ⟨mi_r39, List.forall_mem_cons.mpr ⟨mi_r40, List.forall_mem_cons.mpr ⟨mi_r41, List.forall_mem_cons.mpr ⟨mi_r42, List.forall_mem_cons.mpr ⟨mi_r43, List.forall_mem_cons.mpr ⟨mi_r44, List.forall_mem_cons.mpr ⟨mi_r45, List.forall_mem_cons.mpr ⟨mi_r46, List.forall_mem_cons.mpr ⟨mi_r47, List.forall_mem_cons.mpr ⟨mi_r48, List.forall_mem_cons.mpr ⟨mi_r49, List.forall_mem_cons.mpr ⟨mi_r50, List.forall_mem_cons.mpr ⟨mi_r51, List.forall_mem_cons.mpr ⟨mi_r52, List.forall_mem_cons.mpr ⟨mi_r53, List.forall_mem_cons.mpr ⟨mi_r54, List.forall_mem_cons.mpr ⟨mi_r55, List.forall_mem_cons.mpr ⟨mi_r56, List.forall_mem_cons.mpr ⟨mi_r57, List.forall_mem_cons.mpr ⟨mi_r58, List.forall_mem_cons.mpr ⟨mi_r59, List.forall_mem_cons.mpr ⟨mi_r60, List.forall_mem_cons.mpr ⟨mi_r61, List.forall_mem_cons.mpr ⟨mi_r62, List.forall_mem_cons.mpr ⟨mi_r63, List.forall_mem_cons.mpr ⟨mi_r64, List.forall_mem_cons.mpr ⟨mi_r65, List.forall_mem_cons.mpr ⟨mi_r66, List.forall_mem_cons.mpr ⟨mi_r67, List.forall_mem_cons.mpr ⟨mi_r68, List.forall_mem_cons.mpr ⟨mi_r69, List.forall_mem_cons.mpr ⟨mi_r70, List.forall_mem_cons.mpr ⟨mi_r71, List.forall_mem_cons.mpr ⟨mi_r72, List.forall_mem_cons.mpr ⟨mi_r73, List.forall_mem_cons.mpr ⟨mi_r74, List.forall_mem_cons.mpr ⟨mi_r75, List.forall_mem_cons.mpr ⟨mi_r76, List.forall_mem_cons.mpr ⟨mi_r77, List.forall_mem_cons.mpr ⟨mi_r78, List.forall_mem_cons.mpr ⟨mi_r79, List.forall_mem_cons.mpr ⟨mi_r80, List.forall_mem_cons.mpr ⟨mi_r81, List.forall_mem_cons.mpr ⟨mi_r82, List.forall_mem_cons.mpr ⟨mi_r83, List.forall_mem_cons.mpr ⟨mi_r84, List.forall_mem_cons.mpr ⟨mi_r85, List.forall_mem_cons.mpr ⟨mi_r86, List.forall_mem_cons.mpr ⟨mi_r87, List.forall_mem_cons.mpr ⟨mi_r88, fun _ h => absurd h List.not_mem_nil⟩⟩⟩⟩⟩⟩⟩⟩⟩⟩⟩⟩⟩⟩⟩⟩⟩⟩⟩⟩⟩⟩⟩⟩⟩⟩⟩⟩⟩⟩⟩⟩⟩⟩⟩⟩⟩⟩⟩⟩⟩⟩⟩⟩⟩⟩⟩⟩⟩⟩⟩⟩⟩⟩⟩⟩⟩⟩⟩⟩⟩⟩⟩⟩⟩⟩⟩⟩⟩⟩⟩⟩⟩⟩⟩⟩⟩⟩⟩⟩⟩⟩⟩⟩⟩⟩⟩⟩⟩
def mi_V : List (String × u_T × Nat × (Nat → FieldType)) := [(RX0, TX0, 3, tyX0), (RX1, TX1, 12, tyX1), (RX3, TX3, 2, tyX3), (RX4, TX4, 8, tyX4), (RX5, TX5, 28, tyX5)]
def mi_okv (q : String × u_T × Nat × (Nat → FieldType)) : Prop := (∀ w ∈ u_ws q.1 q.2.1 q.2.2.1, w ∈ mi_Ts) ∧ (∀ k, k < q.2.2.1 → parseFieldDescriptor (q.2.1 k).2.2.1 = some (q.2.2.2 k)) ∧ (∀ a, a < q.2.2.1 → ∀ b, b < q.2.2.1 → a ≠ b → (q.2.1 a).2.1 ≠ (q.2.1 b).2.1) ∧ (∀ k, k < q.2.2.1 → (q.2.1 k).1 = q.1)
theorem mi_v0 : mi_okv (RX0, TX0, 3, tyX0) := ⟨by
  show ∀ w ∈ (List.range 3).map (u_lay RX0 TX0), w ∈ mi_Ts
  exact List.forall_mem_cons.mpr ⟨(mi_in 58 (by decide +kernel) (by decide +kernel)), List.forall_mem_cons.mpr ⟨(mi_in 60 (by decide +kernel) (by decide +kernel)), List.forall_mem_cons.mpr ⟨(mi_in 62 (by decide +kernel) (by decide +kernel)), fun _ h => absurd h List.not_mem_nil⟩⟩⟩, tyX0_ok, nmX0, by decide +kernel⟩
theorem mi_v1 : mi_okv (RX1, TX1, 12, tyX1) := ⟨by
  show ∀ w ∈ (List.range 12).map (u_lay RX1 TX1), w ∈ mi_Ts
  exact List.forall_mem_cons.mpr ⟨(mi_in 136 (by decide +kernel) (by decide +kernel)), List.forall_mem_cons.mpr ⟨(mi_in 138 (by decide +kernel) (by decide +kernel)), List.forall_mem_cons.mpr ⟨(mi_in 140 (by decide +kernel) (by decide +kernel)), List.forall_mem_cons.mpr ⟨(mi_in 142 (by decide +kernel) (by decide +kernel)), List.forall_mem_cons.mpr ⟨(mi_in 144 (by decide +kernel) (by decide +kernel)), List.forall_mem_cons.mpr ⟨(mi_in 146 (by decide +kernel) (by decide +kernel)), List.forall_mem_cons.mpr ⟨(mi_in 148 (by decide +kernel) (by decide +kernel)), List.forall_mem_cons.mpr ⟨(mi_in 150 (by decide +kernel) (by decide +kernel)), List.forall_mem_cons.mpr ⟨(mi_in 152 (by decide +kernel) (by decide +kernel)), List.forall_mem_cons.mpr ⟨(mi_in 154 (by decide +kernel) (by decide +kernel)), List.forall_mem_cons.mpr ⟨(mi_in 156 (by decide +kernel) (by decide +kernel)), List.forall_mem_cons.mpr ⟨(mi_in 158 (by decide +kernel) (by decide +kernel)), fun _ h => absurd h List.not_mem_nil⟩⟩⟩⟩⟩⟩⟩⟩⟩⟩⟩⟩, tyX1_ok, nmX1, by decide +kernel⟩
theorem mi_v2 : mi_okv (RX3, TX3, 2, tyX3) := ⟨by
  show ∀ w ∈ (List.range 2).map (u_lay RX3 TX3), w ∈ mi_Ts
  exact List.forall_mem_cons.mpr ⟨(mi_in 269 (by decide +kernel) (by decide +kernel)), List.forall_mem_cons.mpr ⟨(mi_in 271 (by decide +kernel) (by decide +kernel)), fun _ h => absurd h List.not_mem_nil⟩⟩, tyX3_ok, nmX3, by decide +kernel⟩
theorem mi_v3 : mi_okv (RX4, TX4, 8, tyX4) := ⟨by
  show ∀ w ∈ (List.range 8).map (u_lay RX4 TX4), w ∈ mi_Ts
  exact List.forall_mem_cons.mpr ⟨(mi_in 76 (by decide +kernel) (by decide +kernel)), List.forall_mem_cons.mpr ⟨(mi_in 78 (by decide +kernel) (by decide +kernel)), List.forall_mem_cons.mpr ⟨(mi_in 80 (by decide +kernel) (by decide +kernel)), List.forall_mem_cons.mpr ⟨(mi_in 82 (by decide +kernel) (by decide +kernel)), List.forall_mem_cons.mpr ⟨(mi_in 84 (by decide +kernel) (by decide +kernel)), List.forall_mem_cons.mpr ⟨(mi_in 86 (by decide +kernel) (by decide +kernel)), List.forall_mem_cons.mpr ⟨(mi_in 88 (by decide +kernel) (by decide +kernel)), List.forall_mem_cons.mpr ⟨(mi_in 90 (by decide +kernel) (by decide +kernel)), fun _ h => absurd h List.not_mem_nil⟩⟩⟩⟩⟩⟩⟩⟩, tyX4_ok, nmX4, by decide +kernel⟩
theorem mi_v4 : mi_okv (RX5, TX5, 28, tyX5) := ⟨by
  show ∀ w ∈ (List.range 28).map (u_lay RX5 TX5), w ∈ mi_Ts
  exact List.forall_mem_cons.mpr ⟨(mi_in 386 (by decide +kernel) (by decide +kernel)), List.forall_mem_cons.mpr ⟨(mi_in 388 (by decide +kernel) (by decide +kernel)), List.forall_mem_cons.mpr ⟨(mi_in 390 (by decide +kernel) (by decide +kernel)), List.forall_mem_cons.mpr ⟨(mi_in 392 (by decide +kernel) (by decide +kernel)), List.forall_mem_cons.mpr ⟨(mi_in 394 (by decide +kernel) (by decide +kernel)), List.forall_mem_cons.mpr ⟨(mi_in 396 (by decide +kernel) (by decide +kernel)), List.forall_mem_cons.mpr ⟨(mi_in 398 (by decide +kernel) (by decide +kernel)), List.forall_mem_cons.mpr ⟨(mi_in 400 (by decide +kernel) (by decide +kernel)), List.forall_mem_cons.mpr ⟨(mi_in 402 (by decide +kernel) (by decide +kernel)), List.forall_mem_cons.mpr ⟨(mi_in 404 (by decide +kernel) (by decide +kernel)), List.forall_mem_cons.mpr ⟨(mi_in 406 (by decide +kernel) (by decide +kernel)), List.forall_mem_cons.mpr ⟨(mi_in 408 (by decide +kernel) (by decide +kernel)), List.forall_mem_cons.mpr ⟨(mi_in 410 (by decide +kernel) (by decide +kernel)), List.forall_mem_cons.mpr ⟨(mi_in 412 (by decide +kernel) (by decide +kernel)), List.forall_mem_cons.mpr ⟨(mi_in 414 (by decide +kernel) (by decide +kernel)), List.forall_mem_cons.mpr ⟨(mi_in 416 (by decide +kernel) (by decide +kernel)), List.forall_mem_cons.mpr ⟨(mi_in 418 (by decide +kernel) (by decide +kernel)), List.forall_mem_cons.mpr ⟨(mi_in 420 (by decide +kernel) (by decide +kernel)), List.forall_mem_cons.mpr ⟨(mi_in 422 (by decide +kernel) (by decide +kernel)), List.forall_mem_cons.mpr ⟨(mi_in 424 (by decide +kernel) (by decide +kernel)), List.forall_mem_cons.mpr ⟨(mi_in 426 (by decide +kernel) (by decide +kernel)), List.forall_mem_cons.mpr ⟨(mi_in 428 (by decide +kernel) (by decide +kernel)), List.forall_mem_cons.mpr ⟨(mi_in 430 (by decide +kernel) (by decide +kernel)), List.forall_mem_cons.mpr ⟨(mi_in 432 (by decide +kernel) (by decide +kernel)), List.forall_mem_cons.mpr ⟨(mi_in 434 (by decide +kernel) (by decide +kernel)), List.forall_mem_cons.mpr ⟨(mi_in 436 (by decide +kernel) (by decide +kernel)), List.forall_mem_cons.mpr ⟨(mi_in 438 (by decide +kernel) (by decide +kernel)), List.forall_mem_cons.mpr ⟨(mi_in 440 (by decide +kernel) (by decide +kernel)), fun _ h => absurd h List.not_mem_nil⟩⟩⟩⟩⟩⟩⟩⟩⟩⟩⟩⟩⟩⟩⟩⟩⟩⟩⟩⟩⟩⟩⟩⟩⟩⟩⟩⟩, tyX5_ok, nmX5, by decide +kernel⟩
theorem mi_allV : ∀ q ∈ mi_V, mi_okv q := List.forall_mem_cons.mpr ⟨mi_v0, List.forall_mem_cons.mpr ⟨mi_v1, List.forall_mem_cons.mpr ⟨mi_v2, List.forall_mem_cons.mpr ⟨mi_v3, List.forall_mem_cons.mpr ⟨mi_v4, fun _ h => absurd h List.not_mem_nil⟩⟩⟩⟩⟩
theorem mi_V_cl : mi_V.map (fun q => (q.1, q.2.1, q.2.2.1)) = vwCl := rfl
/-- a field link of class c: its index, the kind of object, the field, over a nest mate? -/
def mi_Fl : List (List (Nat × Nat × Nat × Bool)) := [[(11, 0, 0, false), (17, 0, 1, false), (24, 0, 2, false), (28, 1, 0, true), (68, 1, 3, true), (71, 1, 4, true)], [(7, 1, 0, false), (22, 1, 1, false), (28, 1, 2, false), (13, 1, 3, false), (63, 1, 4, false), (57, 1, 5, false), (60, 1, 6, false), (66, 1, 7, false), (51, 1, 10, false), (47, 1, 11, false), (54, 2, 1, true)], [], [(7, 2, 0, false)], [(97, 0, 2, true), (10, 3, 0, false), (18, 3, 1, false), (22, 3, 2, false), (35, 3, 3, false), (70, 3, 4, false), (80, 3, 5, false), (77, 3, 6, false), (31, 3, 7, false), (119, 1, 7, true), (118, 1, 8, true), (126, 1, 9, true), (129, 1, 10, true), (133, 2, 0, true), (139, 2, 1, true)], [(9, 4, 0, false), (13, 4, 1, false), (16, 4, 2, false), (19, 4, 3, false), (22, 4, 4, false), (25, 4, 5, false), (28, 4, 6, false), (31, 4, 7, false), (34, 4, 8, false), (37, 4, 9, false), (40, 4, 10, false), (43, 4, 11, false), (123, 4, 12, false), (46, 4, 13, false), (49, 4, 14, false), (160, 4, 15, false), (52, 4, 16, false), (55, 4, 17, false), (58, 4, 18, false), (62, 4, 19, false), (102, 4, 20, false), (126, 4, 21, false), (65, 4, 22, false), (68, 4, 23, false), (71, 4, 24, false), (74, 4, 25, false), (105, 4, 26, false), (98, 4, 27, false)]]
def mi_okf (c : Nat) (e : Nat × Nat × Nat × Bool) : Prop := ∃ q, mi_V[e.2.1]? = some q ∧ e.2.2.1 < q.2.2.1 ∧ (if e.2.2.2 = true then Cond.fieldLinkNest (mi_cn c) e.1 q.1 (q.2.1 e.2.2.1).2.1 (q.2.1 e.2.2.1).2.2.1 "LineOfKin" ∈ mi_nest else Cond.fieldLink (mi_cn c) e.1 q.1 (q.2.1 e.2.2.1).2.1 (q.2.1 e.2.2.1).2.2.1 ∈ mi_Ts)
theorem mi_f0 : ∀ e ∈ (mi_Fl[0]?).getD [], mi_okf 0 e := List.forall_mem_cons.mpr ⟨⟨_, rfl, by decide, (if_neg (by decide)).mpr (mi_in 54 (by decide +kernel) (by decide +kernel))⟩, List.forall_mem_cons.mpr ⟨⟨_, rfl, by decide, (if_neg (by decide)).mpr (mi_in 55 (by decide +kernel) (by decide +kernel))⟩, List.forall_mem_cons.mpr ⟨⟨_, rfl, by decide, (if_neg (by decide)).mpr (mi_in 56 (by decide +kernel) (by decide +kernel))⟩, List.forall_mem_cons.mpr ⟨⟨_, rfl, by decide, (if_pos rfl).mpr (mi_inN 120 (by decide +kernel) rfl)⟩, List.forall_mem_cons.mpr ⟨⟨_, rfl, by decide, (if_pos rfl).mpr (mi_inN 124 (by decide +kernel) rfl)⟩, List.forall_mem_cons.mpr ⟨⟨_, rfl, by decide, (if_pos rfl).mpr (mi_inN 126 (by decide +kernel) rfl)⟩, fun _ h => absurd h List.not_mem_nil⟩⟩⟩⟩⟩⟩
theorem mi_f1 : ∀ e ∈ (mi_Fl[1]?).getD [], mi_okf 1 e := List.forall_mem_cons.mpr ⟨⟨_, rfl, by decide, (if_neg (by decide)).mpr (mi_in 119 (by decide +kernel) (by decide +kernel))⟩, List.forall_mem_cons.mpr ⟨⟨_, rfl, by decide, (if_neg (by decide)).mpr (mi_in 121 (by decide +kernel) (by decide +kernel))⟩, List.forall_mem_cons.mpr ⟨⟨_, rfl, by decide, (if_neg (by decide)).mpr (mi_in 122 (by decide +kernel) (by decide +kernel))⟩, List.forall_mem_cons.mpr ⟨⟨_, rfl, by decide, (if_neg (by decide)).mpr (mi_in 123 (by decide +kernel) (by decide +kernel))⟩, List.forall_mem_cons.mpr ⟨⟨_, rfl, by decide, (if_neg (by decide)).mpr (mi_in 125 (by decide +kernel) (by decide +kernel))⟩, List.forall_mem_cons.mpr ⟨⟨_, rfl, by decide, (if_neg (by decide)).mpr (mi_in 127 (by decide +kernel) (by decide +kernel))⟩, List.forall_mem_cons.mpr ⟨⟨_, rfl, by decide, (if_neg (by decide)).mpr (mi_in 128 (by decide +kernel) (by decide +kernel))⟩, List.forall_mem_cons.mpr ⟨⟨_, rfl, by decide, (if_neg (by decide)).mpr (mi_in 129 (by decide +kernel) (by decide +kernel))⟩, List.forall_mem_cons.mpr ⟨⟨_, rfl, by decide, (if_neg (by decide)).mpr (mi_in 133 (by decide +kernel) (by decide +kernel))⟩, List.forall_mem_cons.mpr ⟨⟨_, rfl, by decide, (if_neg (by decide)).mpr (mi_in 135 (by decide +kernel) (by decide +kernel))⟩, List.forall_mem_cons.mpr ⟨⟨_, rfl, by decide, (if_pos rfl).mpr (mi_inN 267 (by decide +kernel) rfl)⟩, fun _ h => absurd h List.not_mem_nil⟩⟩⟩⟩⟩⟩⟩⟩⟩⟩⟩
theorem mi_f2 : ∀ e ∈ (mi_Fl[2]?).getD [], mi_okf 2 e := fun _ h => absurd h List.not_mem_nil
theorem mi_f3 : ∀ e ∈ (mi_Fl[3]?).getD [], mi_okf 3 e := List.forall_mem_cons.mpr ⟨⟨_, rfl, by decide, (if_neg (by decide)).mpr (mi_in 265 (by decide +kernel) (by decide +kernel))⟩, fun _ h => absurd h List.not_mem_nil⟩
theorem mi_f4 : ∀ e ∈ (mi_Fl[4]?).getD [], mi_okf 4 e := List.forall_mem_cons.mpr ⟨⟨_, rfl, by decide, (if_pos rfl).mpr (mi_inN 57 (by decide +kernel) rfl)⟩, List.forall_mem_cons.mpr ⟨⟨_, rfl, by decide, (if_neg (by decide)).mpr (mi_in 68 (by decide +kernel) (by decide +kernel))⟩, List.forall_mem_cons.mpr ⟨⟨_, rfl, by decide, (if_neg (by decide)).mpr (mi_in 69 (by decide +kernel) (by decide +kernel))⟩, List.forall_mem_cons.mpr ⟨⟨_, rfl, by decide, (if_neg (by decide)).mpr (mi_in 70 (by decide +kernel) (by decide +kernel))⟩, List.forall_mem_cons.mpr ⟨⟨_, rfl, by decide, (if_neg (by decide)).mpr (mi_in 71 (by decide +kernel) (by decide +kernel))⟩, List.forall_mem_cons.mpr ⟨⟨_, rfl, by decide, (if_neg (by decide)).mpr (mi_in 72 (by decide +kernel) (by decide +kernel))⟩, List.forall_mem_cons.mpr ⟨⟨_, rfl, by decide, (if_neg (by decide)).mpr (mi_in 73 (by decide +kernel) (by decide +kernel))⟩, List.forall_mem_cons.mpr ⟨⟨_, rfl, by decide, (if_neg (by decide)).mpr (mi_in 74 (by decide +kernel) (by decide +kernel))⟩, List.forall_mem_cons.mpr ⟨⟨_, rfl, by decide, (if_neg (by decide)).mpr (mi_in 75 (by decide +kernel) (by decide +kernel))⟩, List.forall_mem_cons.mpr ⟨⟨_, rfl, by decide, (if_pos rfl).mpr (mi_inN 130 (by decide +kernel) rfl)⟩, List.forall_mem_cons.mpr ⟨⟨_, rfl, by decide, (if_pos rfl).mpr (mi_inN 131 (by decide +kernel) rfl)⟩, List.forall_mem_cons.mpr ⟨⟨_, rfl, by decide, (if_pos rfl).mpr (mi_inN 132 (by decide +kernel) rfl)⟩, List.forall_mem_cons.mpr ⟨⟨_, rfl, by decide, (if_pos rfl).mpr (mi_inN 134 (by decide +kernel) rfl)⟩, List.forall_mem_cons.mpr ⟨⟨_, rfl, by decide, (if_pos rfl).mpr (mi_inN 266 (by decide +kernel) rfl)⟩, List.forall_mem_cons.mpr ⟨⟨_, rfl, by decide, (if_pos rfl).mpr (mi_inN 268 (by decide +kernel) rfl)⟩, fun _ h => absurd h List.not_mem_nil⟩⟩⟩⟩⟩⟩⟩⟩⟩⟩⟩⟩⟩⟩⟩
theorem mi_f5 : ∀ e ∈ (mi_Fl[5]?).getD [], mi_okf 5 e := List.forall_mem_cons.mpr ⟨⟨_, rfl, by decide, (if_neg (by decide)).mpr (mi_in 358 (by decide +kernel) (by decide +kernel))⟩, List.forall_mem_cons.mpr ⟨⟨_, rfl, by decide, (if_neg (by decide)).mpr (mi_in 359 (by decide +kernel) (by decide +kernel))⟩, List.forall_mem_cons.mpr ⟨⟨_, rfl, by decide, (if_neg (by decide)).mpr (mi_in 360 (by decide +kernel) (by decide +kernel))⟩, List.forall_mem_cons.mpr ⟨⟨_, rfl, by decide, (if_neg (by decide)).mpr (mi_in 361 (by decide +kernel) (by decide +kernel))⟩, List.forall_mem_cons.mpr ⟨⟨_, rfl, by decide, (if_neg (by decide)).mpr (mi_in 362 (by decide +kernel) (by decide +kernel))⟩, List.forall_mem_cons.mpr ⟨⟨_, rfl, by decide, (if_neg (by decide)).mpr (mi_in 363 (by decide +kernel) (by decide +kernel))⟩, List.forall_mem_cons.mpr ⟨⟨_, rfl, by decide, (if_neg (by decide)).mpr (mi_in 364 (by decide +kernel) (by decide +kernel))⟩, List.forall_mem_cons.mpr ⟨⟨_, rfl, by decide, (if_neg (by decide)).mpr (mi_in 365 (by decide +kernel) (by decide +kernel))⟩, List.forall_mem_cons.mpr ⟨⟨_, rfl, by decide, (if_neg (by decide)).mpr (mi_in 366 (by decide +kernel) (by decide +kernel))⟩, List.forall_mem_cons.mpr ⟨⟨_, rfl, by decide, (if_neg (by decide)).mpr (mi_in 367 (by decide +kernel) (by decide +kernel))⟩, List.forall_mem_cons.mpr ⟨⟨_, rfl, by decide, (if_neg (by decide)).mpr (mi_in 368 (by decide +kernel) (by decide +kernel))⟩, List.forall_mem_cons.mpr ⟨⟨_, rfl, by decide, (if_neg (by decide)).mpr (mi_in 369 (by decide +kernel) (by decide +kernel))⟩, List.forall_mem_cons.mpr ⟨⟨_, rfl, by decide, (if_neg (by decide)).mpr (mi_in 370 (by decide +kernel) (by decide +kernel))⟩, List.forall_mem_cons.mpr ⟨⟨_, rfl, by decide, (if_neg (by decide)).mpr (mi_in 371 (by decide +kernel) (by decide +kernel))⟩, List.forall_mem_cons.mpr ⟨⟨_, rfl, by decide, (if_neg (by decide)).mpr (mi_in 372 (by decide +kernel) (by decide +kernel))⟩, List.forall_mem_cons.mpr ⟨⟨_, rfl, by decide, (if_neg (by decide)).mpr (mi_in 373 (by decide +kernel) (by decide +kernel))⟩, List.forall_mem_cons.mpr ⟨⟨_, rfl, by decide, (if_neg (by decide)).mpr (mi_in 374 (by decide +kernel) (by decide +kernel))⟩, List.forall_mem_cons.mpr ⟨⟨_, rfl, by decide, (if_neg (by decide)).mpr (mi_in 375 (by decide +kernel) (by decide +kernel))⟩, List.forall_mem_cons.mpr ⟨⟨_, rfl, by decide, (if_neg (by decide)).mpr (mi_in 376 (by decide +kernel) (by decide +kernel))⟩, List.forall_mem_cons.mpr ⟨⟨_, rfl, by decide, (if_neg (by decide)).mpr (mi_in 377 (by decide +kernel) (by decide +kernel))⟩, List.forall_mem_cons.mpr ⟨⟨_, rfl, by decide, (if_neg (by decide)).mpr (mi_in 378 (by decide +kernel) (by decide +kernel))⟩, List.forall_mem_cons.mpr ⟨⟨_, rfl, by decide, (if_neg (by decide)).mpr (mi_in 379 (by decide +kernel) (by decide +kernel))⟩, List.forall_mem_cons.mpr ⟨⟨_, rfl, by decide, (if_neg (by decide)).mpr (mi_in 380 (by decide +kernel) (by decide +kernel))⟩, List.forall_mem_cons.mpr ⟨⟨_, rfl, by decide, (if_neg (by decide)).mpr (mi_in 381 (by decide +kernel) (by decide +kernel))⟩, List.forall_mem_cons.mpr ⟨⟨_, rfl, by decide, (if_neg (by decide)).mpr (mi_in 382 (by decide +kernel) (by decide +kernel))⟩, List.forall_mem_cons.mpr ⟨⟨_, rfl, by decide, (if_neg (by decide)).mpr (mi_in 383 (by decide +kernel) (by decide +kernel))⟩, List.forall_mem_cons.mpr ⟨⟨_, rfl, by decide, (if_neg (by decide)).mpr (mi_in 384 (by decide +kernel) (by decide +kernel))⟩, List.forall_mem_cons.mpr ⟨⟨_, rfl, by decide, (if_neg (by decide)).mpr (mi_in 385 (by decide +kernel) (by decide +kernel))⟩, fun _ h => absurd h List.not_mem_nil⟩⟩⟩⟩⟩⟩⟩⟩⟩⟩⟩⟩⟩⟩⟩⟩⟩⟩⟩⟩⟩⟩⟩⟩⟩⟩⟩⟩
def mi_Sv : List (String × List Int32) := [("BODY", [100, 0, 0, 0, 0, 0, 0, 0, 0, 101, 0, 0, 0, 0, 0, 0, 111, 0, 0, 0, 0, 0, 110, 0, 0, 0, 0, 0, 0, 0, 120, 0, 0, 0, 0, 0, 130, 131, 0, 0, 0, 0, 0, 0, 0, 0, 0, 0, 140, 0, 141, 0, 0, 0, 0, 0, 0, 0, 142, 0, 150, 0, 0, 0, 152, 0, 0, 0, 0, 151, 0, 0, 0, 0, 0, 0, 0, 160, 0, 0, 161, 163, 0, 0, 0, 0, 0, 0, 0, 0, 0, 0, 0, 0, 0, 0, 0, 0, 181, 0, 0, 0, 0, 0, 0, 180, 0, 0, 190, 0, 0, 0, 0, 0, 0, 0, 0, 0, 0, 0, 0, 0, 202, 0, 0, 204, 0, 201, 0, 0, 0, 0, 0, 0, 0, 0, 0, 70, 0, 0, 0, 0, 0, 0, 0, 0, 0, 62, 0, 0, 0, 0, 0, 60, 61, 64, 0, 10, 11, 0, 0, 0, 0, 0, 0, 0, 0, 0, 0, 0, 21, 0, 20, 0, 0, 0, 0, 0, 0, 0, 0, 0, 30, 0, 0, 0, 0, 0, 0, 0, 0, 0, 0, 0, 0, 0, 0, 0, 40, 41, 0, 0, 0, 0, 0, 0, 0, 0, 0, 0, 0, 50, 51, 0, 0, 0]), ("PARENT", [11, 11, 11, 0, 1, 2, 11, 2, 3, 1, 4, 12, -1, -1, -1, -1, -1, -1]), ("NAMED", [4, 8, 32, 0, 4, 16, 64, 64, 0, 16, 80, 0, 0, 4, 8, 28, 32, 96]), ("ACTS_OF_WAY", [0, 3624, 7, 28, 31, 224, 480])]
def mi_Sl : List (List (Nat × Nat)) := [[], [], [(31, 0), (15, 1), (19, 2), (25, 3)], [], [], []]
def mi_oks (c : Nat) (e : Nat × Nat) : Prop := ∃ q, mi_Sv[e.2]? = some q ∧ Cond.fieldLink (mi_cn c) e.1 RX2 q.1 "[I" ∈ mi_Ts
theorem mi_s0 : ∀ e ∈ (mi_Sl[0]?).getD [], mi_oks 0 e := fun _ h => absurd h List.not_mem_nil
theorem mi_s1 : ∀ e ∈ (mi_Sl[1]?).getD [], mi_oks 1 e := fun _ h => absurd h List.not_mem_nil
theorem mi_s2 : ∀ e ∈ (mi_Sl[2]?).getD [], mi_oks 2 e := List.forall_mem_cons.mpr ⟨⟨_, rfl, (mi_in 33 (by decide +kernel) (by decide +kernel))⟩, List.forall_mem_cons.mpr ⟨⟨_, rfl, (mi_in 38 (by decide +kernel) (by decide +kernel))⟩, List.forall_mem_cons.mpr ⟨⟨_, rfl, (mi_in 46 (by decide +kernel) (by decide +kernel))⟩, List.forall_mem_cons.mpr ⟨⟨_, rfl, (mi_in 117 (by decide +kernel) (by decide +kernel))⟩, fun _ h => absurd h List.not_mem_nil⟩⟩⟩⟩
theorem mi_s3 : ∀ e ∈ (mi_Sl[3]?).getD [], mi_oks 3 e := fun _ h => absurd h List.not_mem_nil
theorem mi_s4 : ∀ e ∈ (mi_Sl[4]?).getD [], mi_oks 4 e := fun _ h => absurd h List.not_mem_nil
theorem mi_s5 : ∀ e ∈ (mi_Sl[5]?).getD [], mi_oks 5 e := fun _ h => absurd h List.not_mem_nil
def mi_Ml : List (List (Nat × Nat × Bool)) := [[(20, 34, true), (33, 3, false), (34, 7, false), (42, 8, false), (46, 9, false), (61, 4, false), (64, 6, false), (49, 10, false), (52, 11, false), (74, 5, false), (38, 26, true), (55, 12, false), (58, 13, false)], [(16, 32, true), (25, 33, true), (31, 25, true), (35, 28, true), (44, 35, true), (38, 15, false)], [(54, 29, false), (11, 24, false), (28, 22, false), (38, 26, false), (48, 31, false), (34, 27, false), (41, 25, false), (45, 30, false), (51, 28, false), (22, 23, false)], [], [(9, 0, true), (25, 21, true), (38, 14, true), (41, 49, false), (45, 50, false), (109, 22, true), (90, 23, true), (60, 15, true), (63, 16, true), (49, 1, true), (52, 4, true), (56, 51, false), (112, 28, true), (115, 25, true), (67, 52, false), (73, 18, true), (83, 53, false), (122, 17, true), (87, 54, false), (93, 2, true), (100, 19, true), (103, 20, true), (106, 55, false)], [(77, 58, false), (81, 60, false), (88, 59, false), (84, 57, false), (91, 62, false), (95, 61, false), (147, 74, false), (129, 68, false), (133, 69, false), (136, 70, false), (139, 71, false), (143, 72, false), (151, 73, false), (154, 75, false), (157, 66, false), (108, 65, false), (112, 64, false), (116, 67, false), (119, 63, false), (163, 81, false)]]
def mi_okl (c : Nat) (e : Nat × Nat × Bool) : Prop := ∃ X, mi_L[e.2.1]? = some X ∧ (if e.2.2 = true then Cond.methodLinkNest (mi_cn c) e.1 X.2.2.2.2.2.2.1 "LineOfKin" ∈ mi_nest else Cond.methodLink (mi_cn c) e.1 X.2.2.2.2.2.2.1 ∈ mi_Ts)
theorem mi_l0 : ∀ e ∈ (mi_Ml[0]?).getD [], mi_okl 0 e := List.forall_mem_cons.mpr ⟨⟨_, rfl, (if_pos rfl).mpr (mi_inN 21 (by decide +kernel) rfl)⟩, List.forall_mem_cons.mpr ⟨⟨_, rfl, (if_neg (by decide)).mpr (mi_in 192 (by decide +kernel) (by decide +kernel))⟩, List.forall_mem_cons.mpr ⟨⟨_, rfl, (if_neg (by decide)).mpr (mi_in 196 (by decide +kernel) (by decide +kernel))⟩, List.forall_mem_cons.mpr ⟨⟨_, rfl, (if_neg (by decide)).mpr (mi_in 200 (by decide +kernel) (by decide +kernel))⟩, List.forall_mem_cons.mpr ⟨⟨_, rfl, (if_neg (by decide)).mpr (mi_in 204 (by decide +kernel) (by decide +kernel))⟩, List.forall_mem_cons.mpr ⟨⟨_, rfl, (if_neg (by decide)).mpr (mi_in 208 (by decide +kernel) (by decide +kernel))⟩, List.forall_mem_cons.mpr ⟨⟨_, rfl, (if_neg (by decide)).mpr (mi_in 209 (by decide +kernel) (by decide +kernel))⟩, List.forall_mem_cons.mpr ⟨⟨_, rfl, (if_neg (by decide)).mpr (mi_in 213 (by decide +kernel) (by decide +kernel))⟩, List.forall_mem_cons.mpr ⟨⟨_, rfl, (if_neg (by decide)).mpr (mi_in 217 (by decide +kernel) (by decide +kernel))⟩, List.forall_mem_cons.mpr ⟨⟨_, rfl, (if_neg (by decide)).mpr (mi_in 221 (by decide +kernel) (by decide +kernel))⟩, List.forall_mem_cons.mpr ⟨⟨_, rfl, (if_pos rfl).mpr (mi_inN 225 (by decide +kernel) rfl)⟩, List.forall_mem_cons.mpr ⟨⟨_, rfl, (if_neg (by decide)).mpr (mi_in 226 (by decide +kernel) (by decide +kernel))⟩, List.forall_mem_cons.mpr ⟨⟨_, rfl, (if_neg (by decide)).mpr (mi_in 230 (by decide +kernel) (by decide +kernel))⟩, fun _ h => absurd h List.not_mem_nil⟩⟩⟩⟩⟩⟩⟩⟩⟩⟩⟩⟩⟩
theorem mi_l1 : ∀ e ∈ (mi_Ml[1]?).getD [], mi_okl 1 e := List.forall_mem_cons.mpr ⟨⟨_, rfl, (if_pos rfl).mpr (mi_inN 105 (by decide +kernel) rfl)⟩, List.forall_mem_cons.mpr ⟨⟨_, rfl, (if_pos rfl).mpr (mi_inN 108 (by decide +kernel) rfl)⟩, List.forall_mem_cons.mpr ⟨⟨_, rfl, (if_pos rfl).mpr (mi_inN 178 (by decide +kernel) rfl)⟩, List.forall_mem_cons.mpr ⟨⟨_, rfl, (if_pos rfl).mpr (mi_inN 183 (by decide +kernel) rfl)⟩, List.forall_mem_cons.mpr ⟨⟨_, rfl, (if_pos rfl).mpr (mi_inN 261 (by decide +kernel) rfl)⟩, List.forall_mem_cons.mpr ⟨⟨_, rfl, (if_neg (by decide)).mpr (mi_in 286 (by decide +kernel) (by decide +kernel))⟩, fun _ h => absurd h List.not_mem_nil⟩⟩⟩⟩⟩⟩
theorem mi_l2 : ∀ e ∈ (mi_Ml[2]?).getD [], mi_okl 2 e := List.forall_mem_cons.mpr ⟨⟨_, rfl, (if_neg (by decide)).mpr (mi_in 24 (by decide +kernel) (by decide +kernel))⟩, List.forall_mem_cons.mpr ⟨⟨_, rfl, (if_neg (by decide)).mpr (mi_in 27 (by decide +kernel) (by decide +kernel))⟩, List.forall_mem_cons.mpr ⟨⟨_, rfl, (if_neg (by decide)).mpr (mi_in 30 (by decide +kernel) (by decide +kernel))⟩, List.forall_mem_cons.mpr ⟨⟨_, rfl, (if_neg (by decide)).mpr (mi_in 35 (by decide +kernel) (by decide +kernel))⟩, List.forall_mem_cons.mpr ⟨⟨_, rfl, (if_neg (by decide)).mpr (mi_in 40 (by decide +kernel) (by decide +kernel))⟩, List.forall_mem_cons.mpr ⟨⟨_, rfl, (if_neg (by decide)).mpr (mi_in 43 (by decide +kernel) (by decide +kernel))⟩, List.forall_mem_cons.mpr ⟨⟨_, rfl, (if_neg (by decide)).mpr (mi_in 48 (by decide +kernel) (by decide +kernel))⟩, List.forall_mem_cons.mpr ⟨⟨_, rfl, (if_neg (by decide)).mpr (mi_in 51 (by decide +kernel) (by decide +kernel))⟩, List.forall_mem_cons.mpr ⟨⟨_, rfl, (if_neg (by decide)).mpr (mi_in 111 (by decide +kernel) (by decide +kernel))⟩, List.forall_mem_cons.mpr ⟨⟨_, rfl, (if_neg (by decide)).mpr (mi_in 114 (by decide +kernel) (by decide +kernel))⟩, fun _ h => absurd h List.not_mem_nil⟩⟩⟩⟩⟩⟩⟩⟩⟩⟩
theorem mi_l3 : ∀ e ∈ (mi_Ml[3]?).getD [], mi_okl 3 e := fun _ h => absurd h List.not_mem_nil
theorem mi_l4 : ∀ e ∈ (mi_Ml[4]?).getD [], mi_okl 4 e := List.forall_mem_cons.mpr ⟨⟨_, rfl, (if_pos rfl).mpr (mi_inN 17 (by decide +kernel) rfl)⟩, List.forall_mem_cons.mpr ⟨⟨_, rfl, (if_pos rfl).mpr (mi_inN 97 (by decide +kernel) rfl)⟩, List.forall_mem_cons.mpr ⟨⟨_, rfl, (if_pos rfl).mpr (mi_inN 101 (by decide +kernel) rfl)⟩, List.forall_mem_cons.mpr ⟨⟨_, rfl, (if_neg (by decide)).mpr (mi_in 165 (by decide +kernel) (by decide +kernel))⟩, List.forall_mem_cons.mpr ⟨⟨_, rfl, (if_neg (by decide)).mpr (mi_in 169 (by decide +kernel) (by decide +kernel))⟩, List.forall_mem_cons.mpr ⟨⟨_, rfl, (if_pos rfl).mpr (mi_inN 172 (by decide +kernel) rfl)⟩, List.forall_mem_cons.mpr ⟨⟨_, rfl, (if_pos rfl).mpr (mi_inN 173 (by decide +kernel) rfl)⟩, List.forall_mem_cons.mpr ⟨⟨_, rfl, (if_pos rfl).mpr (mi_inN 174 (by decide +kernel) rfl)⟩, List.forall_mem_cons.mpr ⟨⟨_, rfl, (if_pos rfl).mpr (mi_inN 179 (by decide +kernel) rfl)⟩, List.forall_mem_cons.mpr ⟨⟨_, rfl, (if_pos rfl).mpr (mi_inN 184 (by decide +kernel) rfl)⟩, List.forall_mem_cons.mpr ⟨⟨_, rfl, (if_pos rfl).mpr (mi_inN 188 (by decide +kernel) rfl)⟩, List.forall_mem_cons.mpr ⟨⟨_, rfl, (if_neg (by decide)).mpr (mi_in 238 (by decide +kernel) (by decide +kernel))⟩, List.forall_mem_cons.mpr ⟨⟨_, rfl, (if_pos rfl).mpr (mi_inN 241 (by decide +kernel) rfl)⟩, List.forall_mem_cons.mpr ⟨⟨_, rfl, (if_pos rfl).mpr (mi_inN 242 (by decide +kernel) rfl)⟩, List.forall_mem_cons.mpr ⟨⟨_, rfl, (if_neg (by decide)).mpr (mi_in 247 (by decide +kernel) (by decide +kernel))⟩, List.forall_mem_cons.mpr ⟨⟨_, rfl, (if_pos rfl).mpr (mi_inN 255 (by decide +kernel) rfl)⟩, List.forall_mem_cons.mpr ⟨⟨_, rfl, (if_neg (by decide)).mpr (mi_in 278 (by decide +kernel) (by decide +kernel))⟩, List.forall_mem_cons.mpr ⟨⟨_, rfl, (if_pos rfl).mpr (mi_inN 282 (by decide +kernel) rfl)⟩, List.forall_mem_cons.mpr ⟨⟨_, rfl, (if_neg (by decide)).mpr (mi_in 287 (by decide +kernel) (by decide +kernel))⟩, List.forall_mem_cons.mpr ⟨⟨_, rfl, (if_pos rfl).mpr (mi_inN 299 (by decide +kernel) rfl)⟩, List.forall_mem_cons.mpr ⟨⟨_, rfl, (if_pos rfl).mpr (mi_inN 311 (by decide +kernel) rfl)⟩, List.forall_mem_cons.mpr ⟨⟨_, rfl, (if_pos rfl).mpr (mi_inN 314 (by decide +kernel) rfl)⟩, List.forall_mem_cons.mpr ⟨⟨_, rfl, (if_neg (by decide)).mpr (mi_in 322 (by decide +kernel) (by decide +kernel))⟩, fun _ h => absurd h List.not_mem_nil⟩⟩⟩⟩⟩⟩⟩⟩⟩⟩⟩⟩⟩⟩⟩⟩⟩⟩⟩⟩⟩⟩⟩
theorem mi_l5 : ∀ e ∈ (mi_Ml[5]?).getD [], mi_okl 5 e := List.forall_mem_cons.mpr ⟨⟨_, rfl, (if_neg (by decide)).mpr (mi_in 336 (by decide +kernel) (by decide +kernel))⟩, List.forall_mem_cons.mpr ⟨⟨_, rfl, (if_neg (by decide)).mpr (mi_in 340 (by decide +kernel) (by decide +kernel))⟩, List.forall_mem_cons.mpr ⟨⟨_, rfl, (if_neg (by decide)).mpr (mi_in 344 (by decide +kernel) (by decide +kernel))⟩, List.forall_mem_cons.mpr ⟨⟨_, rfl, (if_neg (by decide)).mpr (mi_in 347 (by decide +kernel) (by decide +kernel))⟩, List.forall_mem_cons.mpr ⟨⟨_, rfl, (if_neg (by decide)).mpr (mi_in 350 (by decide +kernel) (by decide +kernel))⟩, List.forall_mem_cons.mpr ⟨⟨_, rfl, (if_neg (by decide)).mpr (mi_in 354 (by decide +kernel) (by decide +kernel))⟩, List.forall_mem_cons.mpr ⟨⟨_, rfl, (if_neg (by decide)).mpr (mi_in 452 (by decide +kernel) (by decide +kernel))⟩, List.forall_mem_cons.mpr ⟨⟨_, rfl, (if_neg (by decide)).mpr (mi_in 456 (by decide +kernel) (by decide +kernel))⟩, List.forall_mem_cons.mpr ⟨⟨_, rfl, (if_neg (by decide)).mpr (mi_in 460 (by decide +kernel) (by decide +kernel))⟩, List.forall_mem_cons.mpr ⟨⟨_, rfl, (if_neg (by decide)).mpr (mi_in 463 (by decide +kernel) (by decide +kernel))⟩, List.forall_mem_cons.mpr ⟨⟨_, rfl, (if_neg (by decide)).mpr (mi_in 466 (by decide +kernel) (by decide +kernel))⟩, List.forall_mem_cons.mpr ⟨⟨_, rfl, (if_neg (by decide)).mpr (mi_in 470 (by decide +kernel) (by decide +kernel))⟩, List.forall_mem_cons.mpr ⟨⟨_, rfl, (if_neg (by decide)).mpr (mi_in 474 (by decide +kernel) (by decide +kernel))⟩, List.forall_mem_cons.mpr ⟨⟨_, rfl, (if_neg (by decide)).mpr (mi_in 478 (by decide +kernel) (by decide +kernel))⟩, List.forall_mem_cons.mpr ⟨⟨_, rfl, (if_neg (by decide)).mpr (mi_in 482 (by decide +kernel) (by decide +kernel))⟩, List.forall_mem_cons.mpr ⟨⟨_, rfl, (if_neg (by decide)).mpr (mi_in 486 (by decide +kernel) (by decide +kernel))⟩, List.forall_mem_cons.mpr ⟨⟨_, rfl, (if_neg (by decide)).mpr (mi_in 490 (by decide +kernel) (by decide +kernel))⟩, List.forall_mem_cons.mpr ⟨⟨_, rfl, (if_neg (by decide)).mpr (mi_in 494 (by decide +kernel) (by decide +kernel))⟩, List.forall_mem_cons.mpr ⟨⟨_, rfl, (if_neg (by decide)).mpr (mi_in 498 (by decide +kernel) (by decide +kernel))⟩, List.forall_mem_cons.mpr ⟨⟨_, rfl, (if_neg (by decide)).mpr (mi_in 518 (by decide +kernel) (by decide +kernel))⟩, fun _ h => absurd h List.not_mem_nil⟩⟩⟩⟩⟩⟩⟩⟩⟩⟩⟩⟩⟩⟩⟩⟩⟩⟩⟩⟩
def mi_Ol : List (List Nat) := [[3], [1], [], [1], [1], [1]]
theorem mi_o0 : ∀ e ∈ (mi_Ol[0]?).getD [], Cond.methodLink (mi_cn 0) e objectInit ∈ mi_Ts := List.forall_mem_cons.mpr ⟨(mi_in 20 (by decide +kernel) (by decide +kernel)), fun _ h => absurd h List.not_mem_nil⟩
theorem mi_o1 : ∀ e ∈ (mi_Ol[1]?).getD [], Cond.methodLink (mi_cn 1) e objectInit ∈ mi_Ts := List.forall_mem_cons.mpr ⟨(mi_in 104 (by decide +kernel) (by decide +kernel)), fun _ h => absurd h List.not_mem_nil⟩
theorem mi_o2 : ∀ e ∈ (mi_Ol[2]?).getD [], Cond.methodLink (mi_cn 2) e objectInit ∈ mi_Ts := fun _ h => absurd h List.not_mem_nil
theorem mi_o3 : ∀ e ∈ (mi_Ol[3]?).getD [], Cond.methodLink (mi_cn 3) e objectInit ∈ mi_Ts := List.forall_mem_cons.mpr ⟨(mi_in 264 (by decide +kernel) (by decide +kernel)), fun _ h => absurd h List.not_mem_nil⟩
theorem mi_o4 : ∀ e ∈ (mi_Ol[4]?).getD [], Cond.methodLink (mi_cn 4) e objectInit ∈ mi_Ts := List.forall_mem_cons.mpr ⟨(mi_in 12 (by decide +kernel) (by decide +kernel)), fun _ h => absurd h List.not_mem_nil⟩
theorem mi_o5 : ∀ e ∈ (mi_Ol[5]?).getD [], Cond.methodLink (mi_cn 5) e objectInit ∈ mi_Ts := List.forall_mem_cons.mpr ⟨(mi_in 335 (by decide +kernel) (by decide +kernel)), fun _ h => absurd h List.not_mem_nil⟩
theorem mi_oi1 : Cond.instanceMethod objectInit ∈ mi_Ts := (mi_in 13 (by decide +kernel) (by decide +kernel))
theorem mi_oi2 : Cond.code objectInit ⟨#[0xb1]⟩ 1 none ∈ mi_Ts := (mi_in 14 (by decide +kernel) (by decide +kernel))
def mi_Nl : List (List (Nat × Nat)) := [[], [(42, 2)], [], [], [(7, 0), (16, 1)], []]
def mi_okn (c : Nat) (e : Nat × Nat) : Prop := ∃ q, mi_V[e.2]? = some q ∧ Cond.classLink (mi_cn c) e.1 q.1 ∈ mi_Ts ∧ Cond.instantiable q.1 q.2.2.1 ∈ mi_Ts ∧ Cond.initialized q.1 ∈ mi_Ts
theorem mi_n0 : ∀ e ∈ (mi_Nl[0]?).getD [], mi_okn 0 e := fun _ h => absurd h List.not_mem_nil
theorem mi_n1 : ∀ e ∈ (mi_Nl[1]?).getD [], mi_okn 1 e := List.forall_mem_cons.mpr ⟨⟨_, rfl, (mi_in 259 (by decide +kernel) (by decide +kernel)), (mi_in 260 (by decide +kernel) (by decide +kernel)), (mi_in 6 (by decide +kernel) (by decide +kernel))⟩, fun _ h => absurd h List.not_mem_nil⟩
theorem mi_n2 : ∀ e ∈ (mi_Nl[2]?).getD [], mi_okn 2 e := fun _ h => absurd h List.not_mem_nil
theorem mi_n3 : ∀ e ∈ (mi_Nl[3]?).getD [], mi_okn 3 e := fun _ h => absurd h List.not_mem_nil
theorem mi_n4 : ∀ e ∈ (mi_Nl[4]?).getD [], mi_okn 4 e := List.forall_mem_cons.mpr ⟨⟨_, rfl, (mi_in 15 (by decide +kernel) (by decide +kernel)), (mi_in 16 (by decide +kernel) (by decide +kernel)), (mi_in 2 (by decide +kernel) (by decide +kernel))⟩, List.forall_mem_cons.mpr ⟨⟨_, rfl, (mi_in 66 (by decide +kernel) (by decide +kernel)), (mi_in 100 (by decide +kernel) (by decide +kernel)), (mi_in 5 (by decide +kernel) (by decide +kernel))⟩, fun _ h => absurd h List.not_mem_nil⟩⟩
theorem mi_n5 : ∀ e ∈ (mi_Nl[5]?).getD [], mi_okn 5 e := fun _ h => absurd h List.not_mem_nil
theorem mi_acI : Cond.arrayClass .int ∈ mi_Ts := (mi_in 65 (by decide +kernel) (by decide +kernel))
theorem mi_acZ : Cond.arrayClass .boolean ∈ mi_Ts := (mi_in 443 (by decide +kernel) (by decide +kernel))
theorem mi_allf (c : Nat) : ∀ e ∈ (mi_Fl[c]?).getD [], mi_okf c e := by
  match c with
  | 0 => exact mi_f0
  | 1 => exact mi_f1
  | 2 => exact mi_f2
  | 3 => exact mi_f3
  | 4 => exact mi_f4
  | 5 => exact mi_f5
  | n + 6 => intro e h; exact absurd (show e ∈ ([] : List _) from h) List.not_mem_nil
theorem mi_alls (c : Nat) : ∀ e ∈ (mi_Sl[c]?).getD [], mi_oks c e := by
  match c with
  | 0 => exact mi_s0
  | 1 => exact mi_s1
  | 2 => exact mi_s2
  | 3 => exact mi_s3
  | 4 => exact mi_s4
  | 5 => exact mi_s5
  | n + 6 => intro e h; exact absurd (show e ∈ ([] : List _) from h) List.not_mem_nil
theorem mi_alll (c : Nat) : ∀ e ∈ (mi_Ml[c]?).getD [], mi_okl c e := by
  match c with
  | 0 => exact mi_l0
  | 1 => exact mi_l1
  | 2 => exact mi_l2
  | 3 => exact mi_l3
  | 4 => exact mi_l4
  | 5 => exact mi_l5
  | n + 6 => intro e h; exact absurd (show e ∈ ([] : List _) from h) List.not_mem_nil
theorem mi_alln (c : Nat) : ∀ e ∈ (mi_Nl[c]?).getD [], mi_okn c e := by
  match c with
  | 0 => exact mi_n0
  | 1 => exact mi_n1
  | 2 => exact mi_n2
  | 3 => exact mi_n3
  | 4 => exact mi_n4
  | 5 => exact mi_n5
  | n + 6 => intro e h; exact absurd (show e ∈ ([] : List _) from h) List.not_mem_nil
theorem mi_allo (c : Nat) : ∀ e ∈ (mi_Ol[c]?).getD [], Cond.methodLink (mi_cn c) e objectInit ∈ mi_Ts := by
  match c with
  | 0 => exact mi_o0
  | 1 => exact mi_o1
  | 2 => exact mi_o2
  | 3 => exact mi_o3
  | 4 => exact mi_o4
  | 5 => exact mi_o5
  | n + 6 => intro e h; exact absurd (show e ∈ ([] : List _) from h) List.not_mem_nil
end
section
/-! THE MINI MACHINE: a pure machine over lists. A cell: an object (its kind's place in mi_V, its fields) or an array (0 int, 1 boolean, 2 Device; its contents). A reference is a cell's place in the heap; .retAddr j stands for the j-th constant static array. -/
abbrev mi_C : Type := (Nat × List Value) ⊕ (Nat × (List Int32 ⊕ List (Option Nat)))
abbrev mi_H : Type := List mi_C
/-- pc, locals, stack, heap -/
abbrev mi_F : Type := Nat × List (Option Value) × List Value × mi_H
/-- on; a call (who, with what, where it goes on); an end -/
abbrev mi_N : Type := mi_F ⊕ ((Nat × List Value × mi_F) ⊕ (Option Value × mi_H))
def mi_goto (pc : Nat) (off : Int) (ls : List (Option Value)) (st : List Value) (h : mi_H) : Option mi_N :=
  if 0 ≤ (pc : Int) + off then some (.inl (((pc : Int) + off).toNat, ls, st, h)) else none
def mi_bin (f : Int32 → Int32 → Int32) (pc : Nat) (ls : List (Option Value)) (st : List Value) (h : mi_H) : Option mi_N := match st with
  | .int y :: .int x :: r => some (.inl (pc + 1, ls, .int (f x y) :: r, h))
  | _ => none
def mi_div (f : Int32 → Int32 → Int32) (pc : Nat) (ls : List (Option Value)) (st : List Value) (h : mi_H) : Option mi_N := match st with
  | .int y :: .int x :: r => if y = 0 then none else some (.inl (pc + 1, ls, .int (f x y) :: r, h))
  | _ => none
def mi_iload (k n pc : Nat) (ls : List (Option Value)) (st : List Value) (h : mi_H) : Option mi_N := match ls[k]? with
  | some (some (.int x)) => some (.inl (pc + n, ls, .int x :: st, h))
  | _ => none
def mi_aload (k n pc : Nat) (ls : List (Option Value)) (st : List Value) (h : mi_H) : Option mi_N := match ls[k]? with
  | some (some (.ref x)) => some (.inl (pc + n, ls, .ref x :: st, h))
  | some (some .null) => some (.inl (pc + n, ls, .null :: st, h))
  | _ => none
def mi_istore (k n pc : Nat) (ls : List (Option Value)) (st : List Value) (h : mi_H) : Option mi_N := match st with
  | .int x :: r => if k < ls.length then some (.inl (pc + n, ls.set k (some (.int x)), r, h)) else none
  | _ => none
def mi_astore (k n pc : Nat) (ls : List (Option Value)) (st : List Value) (h : mi_H) : Option mi_N := match st with
  | .ref x :: r => if k < ls.length then some (.inl (pc + n, ls.set k (some (.ref x)), r, h)) else none
  | .null :: r => if k < ls.length then some (.inl (pc + n, ls.set k (some .null), r, h)) else none
  | _ => none
def mi_iinc (k : Nat) (d : Int) (pc : Nat) (ls : List (Option Value)) (st : List Value) (h : mi_H) : Option mi_N := match ls[k]? with
  | some (some (.int x)) => some (.inl (pc + 3, ls.set k (some (.int (x + Int32.ofInt d))), st, h))
  | _ => none
def mi_if1 (c : ClassFile.Cond) (off : Int) (pc : Nat) (ls : List (Option Value)) (st : List Value) (h : mi_H) : Option mi_N := match st with
  | .int x :: r => if Op.ifCond.holds c x = true then mi_goto pc off ls r h else some (.inl (pc + 3, ls, r, h))
  | _ => none
def mi_if2 (c : ClassFile.Cond) (off : Int) (pc : Nat) (ls : List (Option Value)) (st : List Value) (h : mi_H) : Option mi_N := match st with
  | .int y :: .int x :: r => if Op.if_icmp.holds c x y = true then mi_goto pc off ls r h else some (.inl (pc + 3, ls, r, h))
  | _ => none
def mi_ifn (b : Bool) (off : Int) (pc : Nat) (ls : List (Option Value)) (st : List Value) (h : mi_H) : Option mi_N := match st with
  | .null :: r => if b = true then mi_goto pc off ls r h else some (.inl (pc + 3, ls, r, h))
  | .ref _ :: r => if b = true then some (.inl (pc + 3, ls, r, h)) else mi_goto pc off ls r h
  | _ => none
def mi_tsw (dflt lo hi : Int) (offs : Array Int) (pc : Nat) (ls : List (Option Value)) (st : List Value) (h : mi_H) : Option mi_N := match st with
  | .int x :: r => if x.toInt < lo ∨ hi < x.toInt then mi_goto pc dflt ls r h else match offs[(x.toInt - lo).toNat]? with
    | some off => mi_goto pc off ls r h
    | none => none
  | _ => none
def mi_lsw (dflt : Int) (ps : Array (Int × Int)) (pc : Nat) (ls : List (Option Value)) (st : List Value) (h : mi_H) : Option mi_N := match st with
  | .int x :: r => if (ps.toList.zip (ps.toList.drop 1)).all (fun (a, next) => a.1 < next.1) = true then mi_goto pc (Op.lookupswitch.offset ps.toList dflt x.toInt) ls r h else none
  | _ => none
def mi_fit : FieldType → Value → Bool
  | .int, .int _ => true
  | .object _, .ref _ => true
  | .object _, .null => true
  | .array _, .ref _ => true
  | .array _, .null => true
  | _, _ => false
def mi_get (c idx pc : Nat) (ls : List (Option Value)) (st : List Value) (h : mi_H) : Option mi_N := match st with
  | .ref a :: r => match ((mi_Fl[c]?).getD []).lookup idx with
    | some (ci, k, _) => match h[a]? with
      | some (.inl (ci2, fs)) => if ci2 = ci then match fs[k]? with
          | some v => some (.inl (pc + 3, ls, v :: r, h))
          | none => none
        else none
      | _ => none
    | none => none
  | _ => none
/-- may the field be written here? its type; not final, or in the constructor of its own class -/
def mi_may (c kd ci k : Nat) (nest : Bool) (v : Value) : Bool := match mi_V[ci]? with
  | some q => mi_fit (q.2.2.2 k) v && ((q.2.1 k).2.2.2 == false || (kd == 2 && nest == false && decide (q.1 = mi_cn c)))
  | none => false
def mi_put (c kd idx pc : Nat) (ls : List (Option Value)) (st : List Value) (h : mi_H) : Option mi_N := match st with
  | v :: .ref a :: r => match ((mi_Fl[c]?).getD []).lookup idx with
    | some (ci, k, nest) => match h[a]? with
      | some (.inl (ci2, fs)) => if ci2 = ci ∧ k < fs.length ∧ mi_may c kd ci k nest v = true then some (.inl (pc + 3, ls, r, h.set a (.inl (ci, fs.set k v)))) else none
      | _ => none
    | none => none
  | _ => none
def mi_gets (c idx pc : Nat) (ls : List (Option Value)) (st : List Value) (h : mi_H) : Option mi_N := match ((mi_Sl[c]?).getD []).lookup idx with
  | some j => some (.inl (pc + 3, ls, .retAddr j :: st, h))
  | none => none
def mi_new (c idx pc : Nat) (ls : List (Option Value)) (st : List Value) (h : mi_H) : Option mi_N := match ((mi_Nl[c]?).getD []).lookup idx with
  | some ci => match mi_V[ci]? with
    | some q => some (.inl (pc + 3, ls, .ref h.length :: st, h ++ [.inl (ci, (List.range q.2.2.1).map (fun k => defaultValue (q.2.2.2 k)))]))
    | none => none
  | none => none
def mi_newa (t : Nat) (pc : Nat) (ls : List (Option Value)) (st : List Value) (h : mi_H) : Option mi_N := match st with
  | .int n :: r => if n < 0 ∨ 100000 < n.toNatClampNeg then none else some (.inl (pc + 2, ls, .ref h.length :: r, h ++ [.inr (t, .inl (List.replicate n.toNatClampNeg 0))]))
  | _ => none
def mi_newq (c idx pc : Nat) (ls : List (Option Value)) (st : List Value) (h : mi_H) : Option mi_N := match st with
  | .int n :: r => if n < 0 ∨ 100000 < n.toNatClampNeg ∨ ((mi_Nl[c]?).getD []).lookup idx ≠ some 1 then none else some (.inl (pc + 3, ls, .ref h.length :: r, h ++ [.inr (2, .inr (List.replicate n.toNatClampNeg none))]))
  | _ => none
def mi_alen (pc : Nat) (ls : List (Option Value)) (st : List Value) (h : mi_H) : Option mi_N := match st with
  | .ref a :: r => match h[a]? with
    | some (.inr (0, .inl xs)) => some (.inl (pc + 1, ls, .int (Int32.ofNat xs.length) :: r, h))
    | _ => none
  | _ => none
def mi_iald (pc : Nat) (ls : List (Option Value)) (st : List Value) (h : mi_H) : Option mi_N := match st with
  | .int i :: .ref a :: r => match h[a]? with
    | some (.inr (0, .inl xs)) => if i < 0 then none else match xs[i.toNatClampNeg]? with
      | some x => some (.inl (pc + 1, ls, .int x :: r, h))
      | none => none
    | _ => none
  | .int i :: .retAddr j :: r => match mi_Sv[j]? with
    | some q => if i < 0 then none else match q.2[i.toNatClampNeg]? with
      | some x => some (.inl (pc + 1, ls, .int x :: r, h))
      | none => none
    | none => none
  | _ => none
def mi_iast (pc : Nat) (ls : List (Option Value)) (st : List Value) (h : mi_H) : Option mi_N := match st with
  | .int x :: .int i :: .ref a :: r => match h[a]? with
    | some (.inr (0, .inl xs)) => if i < 0 ∨ xs.length ≤ i.toNatClampNeg then none else some (.inl (pc + 1, ls, r, h.set a (.inr (0, .inl (xs.set i.toNatClampNeg x)))))
    | _ => none
  | _ => none
def mi_bald (pc : Nat) (ls : List (Option Value)) (st : List Value) (h : mi_H) : Option mi_N := match st with
  | .int i :: .ref a :: r => match h[a]? with
    | some (.inr (1, .inl xs)) => if i < 0 then none else match xs[i.toNatClampNeg]? with
      | some x => some (.inl (pc + 1, ls, .int x :: r, h))
      | none => none
    | _ => none
  | _ => none
def mi_bast (pc : Nat) (ls : List (Option Value)) (st : List Value) (h : mi_H) : Option mi_N := match st with
  | .int x :: .int i :: .ref a :: r => match h[a]? with
    | some (.inr (1, .inl xs)) => if i < 0 ∨ xs.length ≤ i.toNatClampNeg then none else some (.inl (pc + 1, ls, r, h.set a (.inr (1, .inl (xs.set i.toNatClampNeg (x &&& 1))))))
    | _ => none
  | _ => none
def mi_aald (pc : Nat) (ls : List (Option Value)) (st : List Value) (h : mi_H) : Option mi_N := match st with
  | .int i :: .ref a :: r => match h[a]? with
    | some (.inr (2, .inr xs)) => if i < 0 then none else match xs[i.toNatClampNeg]? with
      | some (some x) => some (.inl (pc + 1, ls, .ref x :: r, h))
      | some none => some (.inl (pc + 1, ls, .null :: r, h))
      | none => none
    | _ => none
  | _ => none
def mi_aast (pc : Nat) (ls : List (Option Value)) (st : List Value) (h : mi_H) : Option mi_N := match st with
  | .ref v :: .int i :: .ref a :: r => match h[a]? with
    | some (.inr (2, .inr xs)) => if i < 0 ∨ xs.length ≤ i.toNatClampNeg then none else match h[v]? with
      | some (.inl (1, _)) => some (.inl (pc + 1, ls, r, h.set a (.inr (2, .inr (xs.set i.toNatClampNeg (some v))))))
      | _ => none
    | _ => none
  | _ => none
/-- a call: k's own row; the arguments from the stack, the receiver below them; the receiver is an object of the class that has the method -/
def mi_inv (kd c idx pc : Nat) (ls : List (Option Value)) (st : List Value) (h : mi_H) : Option mi_N :=
  if kd = 2 ∧ ((mi_Ol[c]?).getD []).contains idx = true then match st with
    | .ref _ :: r => if r.length ≤ 4 then some (.inl (pc + 3, ls, r, h)) else none
    | _ => none
  else match ((mi_Ml[c]?).getD []).lookup idx with
    | some (k, _) => match mi_L[k]? with
      | some X => if X.2.2.2.2.1 = kd ∧ X.2.2.2.2.2.1 ≤ st.length ∧ (st.drop X.2.2.2.2.2.1).length ≤ 8 then
          if kd = 0 then some (.inr (.inl (k, (st.take X.2.2.2.2.2.1).reverse, (pc + 3, ls, st.drop X.2.2.2.2.2.1, h))))
          else match st.drop X.2.2.2.2.2.1 with
            | .ref b :: r => match h[b]? with
              | some (.inl (ci, _)) => match mi_V[ci]? with
                | some q => if q.1 = mi_cn X.2.1 then some (.inr (.inl (k, .ref b :: (st.take X.2.2.2.2.2.1).reverse, (pc + 3, ls, r, h)))) else none
                | none => none
              | _ => none
            | _ => none
        else none
      | none => none
    | none => none
def mi_ret (rt : Option FieldType) (st : List Value) (h : mi_H) : Option mi_N := match rt, st with
  | some .int, [.int v] => some (.inr (.inr (some (.int v), h)))
  | some .boolean, [.int v] => if v &&& 1 = v then some (.inr (.inr (some (.int v), h))) else none
  | _, _ => none
def mi_aret (rt : Option FieldType) (st : List Value) (h : mi_H) : Option mi_N := match rt, st with
  | some (.object _), [.ref v] => some (.inr (.inr (some (.ref v), h)))
  | some (.object _), [.null] => some (.inr (.inr (some .null, h)))
  | _, _ => none
def mi_vret (rt : Option FieldType) (st : List Value) (h : mi_H) : Option mi_N := match rt, st with
  | none, [] => some (.inr (.inr (none, h)))
  | _, _ => none
def mi_op (X : mi_M) (i : Instr) (n pc : Nat) (ls : List (Option Value)) (st : List Value) (h : mi_H) : Option mi_N := match i, n with
  | .iconst k, 1 => some (.inl (pc + 1, ls, .int (Int32.ofInt k) :: st, h))
  | .bipush k, 2 => some (.inl (pc + 2, ls, .int (Int8.ofInt k).toInt32 :: st, h))
  | .sipush k, 3 => some (.inl (pc + 3, ls, .int (Int16.ofInt k).toInt32 :: st, h))
  | .aconst_null, 1 => some (.inl (pc + 1, ls, .null :: st, h))
  | .iload k, 2 => mi_iload k 2 pc ls st h
  | .iload_n k, 1 => mi_iload k 1 pc ls st h
  | .aload k, 2 => mi_aload k 2 pc ls st h
  | .aload_n k, 1 => mi_aload k 1 pc ls st h
  | .istore k, 2 => mi_istore k 2 pc ls st h
  | .istore_n k, 1 => mi_istore k 1 pc ls st h
  | .astore k, 2 => mi_astore k 2 pc ls st h
  | .astore_n k, 1 => mi_astore k 1 pc ls st h
  | .iinc k d, 3 => mi_iinc k d pc ls st h
  | .iadd, 1 => mi_bin (fun x y => x + y) pc ls st h
  | .isub, 1 => mi_bin (fun x y => x - y) pc ls st h
  | .imul, 1 => mi_bin (fun x y => x * y) pc ls st h
  | .iand, 1 => mi_bin (fun x y => x &&& y) pc ls st h
  | .ior, 1 => mi_bin (fun x y => x ||| y) pc ls st h
  | .ixor, 1 => mi_bin (fun x y => x ^^^ y) pc ls st h
  | .ishl, 1 => mi_bin (fun x y => x <<< (y &&& 31)) pc ls st h
  | .ishr, 1 => mi_bin (fun x y => x >>> (y &&& 31)) pc ls st h
  | .iushr, 1 => mi_bin (fun x y => (x.toUInt32 >>> (y.toUInt32 &&& Int32.toUInt32 31)).toInt32) pc ls st h
  | .idiv, 1 => mi_div (fun x y => x / y) pc ls st h
  | .irem, 1 => mi_div (fun x y => x - x / y * y) pc ls st h
  | .ineg, 1 => match st with
    | .int x :: r => some (.inl (pc + 1, ls, .int (-x) :: r, h))
    | _ => none
  | .dup, 1 => match st with
    | v :: r => if v.category = 1 then some (.inl (pc + 1, ls, v :: v :: r, h)) else none
    | _ => none
  | .dup2, 1 => match st with
    | v :: w :: r => if v.category = 1 ∧ w.category = 1 then some (.inl (pc + 1, ls, v :: w :: v :: w :: r, h)) else none
    | _ => none
  | .pop, 1 => match st with
    | v :: r => if v.category = 1 then some (.inl (pc + 1, ls, r, h)) else none
    | _ => none
  | .goto off, 3 => mi_goto pc off ls st h
  | .ifCond c off, 3 => mi_if1 c off pc ls st h
  | .if_icmp c off, 3 => mi_if2 c off pc ls st h
  | .ifnull off, 3 => mi_ifn true off pc ls st h
  | .ifnonnull off, 3 => mi_ifn false off pc ls st h
  | .tableswitch dflt lo hi offs, _ => mi_tsw dflt lo hi offs pc ls st h
  | .lookupswitch dflt ps, _ => mi_lsw dflt ps pc ls st h
  | .getfield idx, 3 => mi_get X.2.1 idx pc ls st h
  | .putfield idx, 3 => mi_put X.2.1 X.2.2.2.2.1 idx pc ls st h
  | .getstatic idx, 3 => mi_gets X.2.1 idx pc ls st h
  | .new idx, 3 => mi_new X.2.1 idx pc ls st h
  | .newarray .int, 2 => mi_newa 0 pc ls st h
  | .newarray .boolean, 2 => mi_newa 1 pc ls st h
  | .anewarray idx, 3 => mi_newq X.2.1 idx pc ls st h
  | .arraylength, 1 => mi_alen pc ls st h
  | .iaload, 1 => mi_iald pc ls st h
  | .iastore, 1 => mi_iast pc ls st h
  | .baload, 1 => mi_bald pc ls st h
  | .bastore, 1 => mi_bast pc ls st h
  | .aaload, 1 => mi_aald pc ls st h
  | .aastore, 1 => mi_aast pc ls st h
  | .invokestatic idx, 3 => mi_inv 0 X.2.1 idx pc ls st h
  | .invokevirtual idx, 3 => mi_inv 1 X.2.1 idx pc ls st h
  | .invokespecial idx, 3 => mi_inv 2 X.2.1 idx pc ls st h
  | .ireturn, 1 => mi_ret X.2.2.1 st h
  | .areturn, 1 => mi_aret X.2.2.1 st h
  | .return_, 1 => mi_vret X.2.2.1 st h
  | _, _ => none
def mi_st (X : mi_M) (F : mi_F) : Option mi_N := match mi_look X.1 F.1 with
  | some (i, n) => mi_op X i n F.1 F.2.1 F.2.2.1 F.2.2.2
  | none => none
/-- n steps at most, to the method's end -/
def mi_it (call : Nat → List Value → mi_H → Option Value → mi_H → Prop) (X : mi_M) : Nat → mi_F → Option Value → mi_H → Prop
  | 0, _, _, _ => False
  | n + 1, F, r, h' => match mi_st X F with
    | some (.inl F') => mi_it call X n F' r h'
    | some (.inr (.inl (k, as, F'))) => ∃ r1 h1, call k as F'.2.2.2 r1 h1 ∧ mi_it call X n (F'.1, F'.2.1, r1.toList ++ F'.2.2.1, h1) r h'
    | some (.inr (.inr (r0, h0))) => r = r0 ∧ h' = h0
    | none => False
def mi_en (X : mi_M) (as : List Value) (h : mi_H) : mi_F := (0, as.map some ++ List.replicate (X.2.2.2.1 - as.length) none, [], h)
/-- calls at most d deep -/
def mi_Ca : Nat → Nat → List Value → mi_H → Option Value → mi_H → Prop
  | 0, _, _, _, _, _ => False
  | d + 1, k, as, h, r, h' => ∃ X n, mi_L[k]? = some X ∧ as.length ≤ X.2.2.2.1 ∧ mi_it (mi_Ca d) X n (mi_en X as h) r h'
/-- the same as a program -/
def mi_itf (call : Nat → List Value → mi_H → Option (Option Value × mi_H)) (X : mi_M) : Nat → mi_F → Option (Option Value × mi_H)
  | 0, _ => none
  | n + 1, F => match mi_st X F with
    | some (.inl F') => mi_itf call X n F'
    | some (.inr (.inl (k, as, F'))) => match call k as F'.2.2.2 with
      | some (r1, h1) => mi_itf call X n (F'.1, F'.2.1, r1.toList ++ F'.2.2.1, h1)
      | none => none
    | some (.inr (.inr (r0, h0))) => some (r0, h0)
    | none => none
def mi_Cf (fuel : Nat) : Nat → Nat → List Value → mi_H → Option (Option Value × mi_H)
  | 0, _, _, _ => none
  | d + 1, k, as, h => match mi_L[k]? with
    | some X => if as.length ≤ X.2.2.2.1 then mi_itf (mi_Cf fuel d) X fuel (mi_en X as h) else none
    | none => none
theorem mi_itf_ok {call : Nat → List Value → mi_H → Option Value → mi_H → Prop} {callf : Nat → List Value → mi_H → Option (Option Value × mi_H)} (hc : ∀ k as h r h', callf k as h = some (r, h') → call k as h r h') {X : mi_M} : ∀ (n : Nat) (F : mi_F) (r : Option Value) (h' : mi_H), mi_itf callf X n F = some (r, h') → mi_it call X n F r h' := by
  intro n
  induction n with
  | zero => intro F r h' h; cases h
  | succ n ih =>
    intro F r h' h
    unfold mi_itf at h
    unfold mi_it
    split at h
    · rename_i F' e; first | exact ih _ _ _ h | (rw [e]; exact ih _ _ _ h)
    · rename_i k as F' e
      split at h
      · rename_i r1 h1 e2; first | exact ⟨r1, h1, hc _ _ _ _ _ e2, ih _ _ _ h⟩ | (rw [e]; exact ⟨r1, h1, hc _ _ _ _ _ e2, ih _ _ _ h⟩)
      · cases h
    · rename_i r0 h0 e; cases h; first | exact ⟨rfl, rfl⟩ | (rw [e]; exact ⟨rfl, rfl⟩)
    · cases h
theorem mi_Cf_ok (fuel : Nat) : ∀ (d k : Nat) (as : List Value) (h : mi_H) (r : Option Value) (h' : mi_H), mi_Cf fuel d k as h = some (r, h') → mi_Ca d k as h r h' := by
  intro d
  induction d with
  | zero => intro k as h r h' e; cases e
  | succ d ih =>
    intro k as h r h' e
    unfold mi_Cf at e
    split at e
    · rename_i X hX
      split at e
      · rename_i hl
        exact ⟨X, fuel, hX, hl, mi_itf_ok (fun k as h r h' q => ih k as h r h' q) _ _ _ _ e⟩
      · cases e
    · cases e
/-- the depth can only help, and so can the steps -/
theorem mi_it_mono {c1 c2 : Nat → List Value → mi_H → Option Value → mi_H → Prop} (hc : ∀ k as h r h', c1 k as h r h' → c2 k as h r h') {X : mi_M} : ∀ (n m : Nat) (F : mi_F) (r : Option Value) (h' : mi_H), n ≤ m → mi_it c1 X n F r h' → mi_it c2 X m F r h' := by
  intro n
  induction n with
  | zero => intro m F r h' _ h; cases h
  | succ n ih =>
    intro m F r h' hm h
    obtain ⟨m, rfl⟩ : ∃ m', m = m' + 1 := ⟨m - 1, by omega⟩
    unfold mi_it at h ⊢
    split at h
    · exact ih _ _ _ _ (by omega) h
    · obtain ⟨r1, h1, a, b⟩ := h
      exact ⟨r1, h1, hc _ _ _ _ _ a, ih _ _ _ _ (by omega) b⟩
    · exact h
    · exact h
theorem mi_Ca_mono : ∀ (d e k : Nat) (as : List Value) (h : mi_H) (r : Option Value) (h' : mi_H), d ≤ e → mi_Ca d k as h r h' → mi_Ca e k as h r h' := by
  intro d
  induction d with
  | zero => intro e k as h r h' _ q; cases q
  | succ d ih =>
    intro e k as h r h' he q
    obtain ⟨e, rfl⟩ : ∃ e', e = e' + 1 := ⟨e - 1, by omega⟩
    obtain ⟨X, n, a, b, c⟩ := q
    exact ⟨X, n, a, b, mi_it_mono (fun k as h r h' q => ih e k as h r h' (by omega) q) n n _ _ _ (Nat.le_refl _) c⟩
end
section
/-! what each step was, read back -/
section INV
variable {pc : Nat} {ls : List (Option Value)} {st : List Value} {h : mi_H} {N : mi_N}
theorem mi_goto_inv {off : Int} (e : mi_goto pc off ls st h = some N) : ∃ t : Nat, (pc : Int) + off = (t : Int) ∧ N = .inl (t, ls, st, h) := by
  unfold mi_goto at e
  split at e
  · rename_i q; cases e; exact ⟨_, (Int.toNat_of_nonneg q).symm, rfl⟩
  · cases e
theorem mi_bin_inv {f : Int32 → Int32 → Int32} (e : mi_bin f pc ls st h = some N) : ∃ x y r, st = .int y :: .int x :: r ∧ N = .inl (pc + 1, ls, .int (f x y) :: r, h) := by
  unfold mi_bin at e
  split at e
  · cases e; exact ⟨_, _, _, rfl, rfl⟩
  · cases e
theorem mi_div_inv {f : Int32 → Int32 → Int32} (e : mi_div f pc ls st h = some N) : ∃ x y r, st = .int y :: .int x :: r ∧ ¬ y = 0 ∧ N = .inl (pc + 1, ls, .int (f x y) :: r, h) := by
  unfold mi_div at e
  split at e
  · split at e
    · cases e
    · rename_i q; cases e; exact ⟨_, _, _, rfl, q, rfl⟩
  · cases e
theorem mi_iload_inv {k n : Nat} (e : mi_iload k n pc ls st h = some N) : ∃ x, ls[k]? = some (some (.int x)) ∧ N = .inl (pc + n, ls, .int x :: st, h) := by
  unfold mi_iload at e
  split at e
  · rename_i q; cases e; exact ⟨_, q, rfl⟩
  · cases e
theorem mi_aload_inv {k n : Nat} (e : mi_aload k n pc ls st h = some N) : (∃ x, ls[k]? = some (some (.ref x)) ∧ N = .inl (pc + n, ls, .ref x :: st, h)) ∨ (ls[k]? = some (some .null) ∧ N = .inl (pc + n, ls, .null :: st, h)) := by
  unfold mi_aload at e
  split at e
  · rename_i q; cases e; exact Or.inl ⟨_, q, rfl⟩
  · rename_i q; cases e; exact Or.inr ⟨q, rfl⟩
  · cases e
theorem mi_istore_inv {k n : Nat} (e : mi_istore k n pc ls st h = some N) : ∃ x r, st = .int x :: r ∧ k < ls.length ∧ N = .inl (pc + n, ls.set k (some (.int x)), r, h) := by
  unfold mi_istore at e
  split at e
  · split at e
    · rename_i q; cases e; exact ⟨_, _, rfl, q, rfl⟩
    · cases e
  · cases e
theorem mi_astore_inv {k n : Nat} (e : mi_astore k n pc ls st h = some N) : k < ls.length ∧ ((∃ x r, st = .ref x :: r ∧ N = .inl (pc + n, ls.set k (some (.ref x)), r, h)) ∨ (∃ r, st = .null :: r ∧ N = .inl (pc + n, ls.set k (some .null), r, h))) := by
  unfold mi_astore at e
  split at e
  · split at e
    · rename_i q; cases e; exact ⟨q, Or.inl ⟨_, _, rfl, rfl⟩⟩
    · cases e
  · split at e
    · rename_i q; cases e; exact ⟨q, Or.inr ⟨_, rfl, rfl⟩⟩
    · cases e
  · cases e
theorem mi_iinc_inv {k : Nat} {d : Int} (e : mi_iinc k d pc ls st h = some N) : ∃ x, ls[k]? = some (some (.int x)) ∧ N = .inl (pc + 3, ls.set k (some (.int (x + Int32.ofInt d))), st, h) := by
  unfold mi_iinc at e
  split at e
  · rename_i q; cases e; exact ⟨_, q, rfl⟩
  · cases e
theorem mi_if1_inv {c : ClassFile.Cond} {off : Int} (e : mi_if1 c off pc ls st h = some N) : ∃ x r, st = .int x :: r ∧ ((Op.ifCond.holds c x = true ∧ ∃ t : Nat, (pc : Int) + off = (t : Int) ∧ N = .inl (t, ls, r, h)) ∨ (¬ Op.ifCond.holds c x = true ∧ N = .inl (pc + 3, ls, r, h))) := by
  unfold mi_if1 at e
  split at e
  · split at e
    · rename_i q; exact ⟨_, _, rfl, Or.inl ⟨q, mi_goto_inv e⟩⟩
    · rename_i q; cases e; exact ⟨_, _, rfl, Or.inr ⟨q, rfl⟩⟩
  · cases e
theorem mi_if2_inv {c : ClassFile.Cond} {off : Int} (e : mi_if2 c off pc ls st h = some N) : ∃ x y r, st = .int y :: .int x :: r ∧ ((Op.if_icmp.holds c x y = true ∧ ∃ t : Nat, (pc : Int) + off = (t : Int) ∧ N = .inl (t, ls, r, h)) ∨ (¬ Op.if_icmp.holds c x y = true ∧ N = .inl (pc + 3, ls, r, h))) := by
  unfold mi_if2 at e
  split at e
  · split at e
    · rename_i q; exact ⟨_, _, _, rfl, Or.inl ⟨q, mi_goto_inv e⟩⟩
    · rename_i q; cases e; exact ⟨_, _, _, rfl, Or.inr ⟨q, rfl⟩⟩
  · cases e
theorem mi_ifnT_inv {off : Int} (e : mi_ifn true off pc ls st h = some N) : (∃ r, st = .null :: r ∧ ∃ t : Nat, (pc : Int) + off = (t : Int) ∧ N = .inl (t, ls, r, h)) ∨ (∃ x r, st = .ref x :: r ∧ N = .inl (pc + 3, ls, r, h)) := by
  unfold mi_ifn at e
  split at e
  · simp only [if_true] at e; exact Or.inl ⟨_, rfl, mi_goto_inv e⟩
  · simp only [if_true] at e; cases e; exact Or.inr ⟨_, _, rfl, rfl⟩
  · cases e
theorem mi_ifnF_inv {off : Int} (e : mi_ifn false off pc ls st h = some N) : (∃ x r, st = .ref x :: r ∧ ∃ t : Nat, (pc : Int) + off = (t : Int) ∧ N = .inl (t, ls, r, h)) ∨ (∃ r, st = .null :: r ∧ N = .inl (pc + 3, ls, r, h)) := by
  unfold mi_ifn at e
  split at e
  · simp only [Bool.false_eq_true, if_false] at e; cases e; exact Or.inr ⟨_, rfl, rfl⟩
  · simp only [Bool.false_eq_true, if_false] at e; exact Or.inl ⟨_, _, rfl, mi_goto_inv e⟩
  · cases e
theorem mi_tsw_inv {dflt lo hi : Int} {offs : Array Int} (e : mi_tsw dflt lo hi offs pc ls st h = some N) : ∃ x r, st = .int x :: r ∧ (((x.toInt < lo ∨ hi < x.toInt) ∧ ∃ t : Nat, (pc : Int) + dflt = (t : Int) ∧ N = .inl (t, ls, r, h)) ∨ (¬ (x.toInt < lo ∨ hi < x.toInt) ∧ ∃ off, offs[(x.toInt - lo).toNat]? = some off ∧ ∃ t : Nat, (pc : Int) + off = (t : Int) ∧ N = .inl (t, ls, r, h))) := by
  unfold mi_tsw at e
  split at e
  · split at e
    · rename_i q; exact ⟨_, _, rfl, Or.inl ⟨q, mi_goto_inv e⟩⟩
    · rename_i q
      split at e
      · rename_i off q2; exact ⟨_, _, rfl, Or.inr ⟨q, off, q2, mi_goto_inv e⟩⟩
      · cases e
  · cases e
theorem mi_lsw_inv {dflt : Int} {ps : Array (Int × Int)} (e : mi_lsw dflt ps pc ls st h = some N) : ∃ x r, st = .int x :: r ∧ (ps.toList.zip (ps.toList.drop 1)).all (fun (a, next) => a.1 < next.1) = true ∧ ∃ t : Nat, (pc : Int) + Op.lookupswitch.offset ps.toList dflt x.toInt = (t : Int) ∧ N = .inl (t, ls, r, h) := by
  unfold mi_lsw at e
  split at e
  · split at e
    · rename_i q; exact ⟨_, _, rfl, q, mi_goto_inv e⟩
    · cases e
  · cases e
theorem mi_get_inv {c idx : Nat} (e : mi_get c idx pc ls st h = some N) : ∃ a r ci k nest fs v, st = .ref a :: r ∧ ((mi_Fl[c]?).getD []).lookup idx = some (ci, k, nest) ∧ h[a]? = some (.inl (ci, fs)) ∧ fs[k]? = some v ∧ N = .inl (pc + 3, ls, v :: r, h) := by
  unfold mi_get at e
  split at e
  · split at e
    · rename_i q1
      split at e
      · rename_i q2
        split at e
        · rename_i q3
          subst q3
          split at e
          · rename_i q4; cases e; exact ⟨_, _, _, _, _, _, _, rfl, q1, q2, q4, rfl⟩
          · cases e
        · cases e
      · cases e
    · cases e
  · cases e
theorem mi_put_inv {c kd idx : Nat} (e : mi_put c kd idx pc ls st h = some N) : ∃ v a r ci k nest fs, st = v :: .ref a :: r ∧ ((mi_Fl[c]?).getD []).lookup idx = some (ci, k, nest) ∧ h[a]? = some (.inl (ci, fs)) ∧ k < fs.length ∧ mi_may c kd ci k nest v = true ∧ N = .inl (pc + 3, ls, r, h.set a (.inl (ci, fs.set k v))) := by
  unfold mi_put at e
  split at e
  · split at e
    · rename_i q1
      split at e
      · rename_i q2
        split at e
        · rename_i q3
          obtain ⟨rfl, q4, q5⟩ := q3
          cases e; exact ⟨_, _, _, _, _, _, _, rfl, q1, q2, q4, q5, rfl⟩
        · cases e
      · cases e
    · cases e
  · cases e
theorem mi_gets_inv {c idx : Nat} (e : mi_gets c idx pc ls st h = some N) : ∃ j, ((mi_Sl[c]?).getD []).lookup idx = some j ∧ N = .inl (pc + 3, ls, .retAddr j :: st, h) := by
  unfold mi_gets at e
  split at e
  · rename_i q; cases e; exact ⟨_, q, rfl⟩
  · cases e
theorem mi_new_inv {c idx : Nat} (e : mi_new c idx pc ls st h = some N) : ∃ ci q, ((mi_Nl[c]?).getD []).lookup idx = some ci ∧ mi_V[ci]? = some q ∧ N = .inl (pc + 3, ls, .ref h.length :: st, h ++ [.inl (ci, (List.range q.2.2.1).map (fun k => defaultValue (q.2.2.2 k)))]) := by
  unfold mi_new at e
  split at e
  · rename_i q1
    split at e
    · rename_i q2; cases e; exact ⟨_, _, q1, q2, rfl⟩
    · cases e
  · cases e
theorem mi_newa_inv {t : Nat} (e : mi_newa t pc ls st h = some N) : ∃ n r, st = .int n :: r ∧ ¬ n < 0 ∧ n.toNatClampNeg ≤ 100000 ∧ N = .inl (pc + 2, ls, .ref h.length :: r, h ++ [.inr (t, .inl (List.replicate n.toNatClampNeg 0))]) := by
  unfold mi_newa at e
  split at e
  · split at e
    · cases e
    · rename_i q; cases e; exact ⟨_, _, rfl, fun z => q (Or.inl z), Nat.not_lt.mp fun z => q (Or.inr z), rfl⟩
  · cases e
theorem mi_newq_inv {c idx : Nat} (e : mi_newq c idx pc ls st h = some N) : ∃ n r, st = .int n :: r ∧ ¬ n < 0 ∧ n.toNatClampNeg ≤ 100000 ∧ ((mi_Nl[c]?).getD []).lookup idx = some 1 ∧ N = .inl (pc + 3, ls, .ref h.length :: r, h ++ [.inr (2, .inr (List.replicate n.toNatClampNeg none))]) := by
  unfold mi_newq at e
  split at e
  · split at e
    · cases e
    · rename_i q; cases e; exact ⟨_, _, rfl, fun z => q (Or.inl z), Nat.not_lt.mp fun z => q (Or.inr (Or.inl z)), Decidable.not_not.mp fun z => q (Or.inr (Or.inr z)), rfl⟩
  · cases e
theorem mi_alen_inv (e : mi_alen pc ls st h = some N) : ∃ a r xs, st = .ref a :: r ∧ h[a]? = some (.inr (0, .inl xs)) ∧ N = .inl (pc + 1, ls, .int (Int32.ofNat xs.length) :: r, h) := by
  unfold mi_alen at e
  split at e
  · split at e
    · rename_i q; cases e; exact ⟨_, _, _, rfl, q, rfl⟩
    · cases e
  · cases e
theorem mi_iald_inv (e : mi_iald pc ls st h = some N) : (∃ i a r xs x, st = .int i :: .ref a :: r ∧ h[a]? = some (.inr (0, .inl xs)) ∧ ¬ i < 0 ∧ xs[i.toNatClampNeg]? = some x ∧ N = .inl (pc + 1, ls, .int x :: r, h)) ∨ (∃ i j r q x, st = .int i :: .retAddr j :: r ∧ mi_Sv[j]? = some q ∧ ¬ i < 0 ∧ q.2[i.toNatClampNeg]? = some x ∧ N = .inl (pc + 1, ls, .int x :: r, h)) := by
  unfold mi_iald at e
  split at e
  · split at e
    · rename_i q1
      split at e
      · cases e
      · rename_i q2
        split at e
        · rename_i q3; cases e; exact Or.inl ⟨_, _, _, _, _, rfl, q1, q2, q3, rfl⟩
        · cases e
    · cases e
  · split at e
    · rename_i q1
      split at e
      · cases e
      · rename_i q2
        split at e
        · rename_i q3; cases e; exact Or.inr ⟨_, _, _, _, _, rfl, q1, q2, q3, rfl⟩
        · cases e
    · cases e
  · cases e
theorem mi_iast_inv (e : mi_iast pc ls st h = some N) : ∃ x i a r xs, st = .int x :: .int i :: .ref a :: r ∧ h[a]? = some (.inr (0, .inl xs)) ∧ ¬ (i < 0 ∨ xs.length ≤ i.toNatClampNeg) ∧ N = .inl (pc + 1, ls, r, h.set a (.inr (0, .inl (xs.set i.toNatClampNeg x)))) := by
  unfold mi_iast at e
  split at e
  · split at e
    · rename_i q1
      split at e
      · cases e
      · rename_i q2; cases e; exact ⟨_, _, _, _, _, rfl, q1, q2, rfl⟩
    · cases e
  · cases e
theorem mi_bald_inv (e : mi_bald pc ls st h = some N) : ∃ i a r xs x, st = .int i :: .ref a :: r ∧ h[a]? = some (.inr (1, .inl xs)) ∧ ¬ i < 0 ∧ xs[i.toNatClampNeg]? = some x ∧ N = .inl (pc + 1, ls, .int x :: r, h) := by
  unfold mi_bald at e
  split at e
  · split at e
    · rename_i q1
      split at e
      · cases e
      · rename_i q2
        split at e
        · rename_i q3; cases e; exact ⟨_, _, _, _, _, rfl, q1, q2, q3, rfl⟩
        · cases e
    · cases e
  · cases e
theorem mi_bast_inv (e : mi_bast pc ls st h = some N) : ∃ x i a r xs, st = .int x :: .int i :: .ref a :: r ∧ h[a]? = some (.inr (1, .inl xs)) ∧ ¬ (i < 0 ∨ xs.length ≤ i.toNatClampNeg) ∧ N = .inl (pc + 1, ls, r, h.set a (.inr (1, .inl (xs.set i.toNatClampNeg (x &&& 1))))) := by
  unfold mi_bast at e
  split at e
  · split at e
    · rename_i q1
      split at e
      · cases e
      · rename_i q2; cases e; exact ⟨_, _, _, _, _, rfl, q1, q2, rfl⟩
    · cases e
  · cases e
theorem mi_aald_inv (e : mi_aald pc ls st h = some N) : ∃ i a r xs, st = .int i :: .ref a :: r ∧ h[a]? = some (.inr (2, .inr xs)) ∧ ¬ i < 0 ∧ ((∃ x, xs[i.toNatClampNeg]? = some (some x) ∧ N = .inl (pc + 1, ls, .ref x :: r, h)) ∨ (xs[i.toNatClampNeg]? = some none ∧ N = .inl (pc + 1, ls, .null :: r, h))) := by
  unfold mi_aald at e
  split at e
  · split at e
    · rename_i q1
      split at e
      · cases e
      · rename_i q2
        split at e
        · rename_i q3; cases e; exact ⟨_, _, _, _, rfl, q1, q2, Or.inl ⟨_, q3, rfl⟩⟩
        · rename_i q3; cases e; exact ⟨_, _, _, _, rfl, q1, q2, Or.inr ⟨q3, rfl⟩⟩
        · cases e
    · cases e
  · cases e
theorem mi_aast_inv (e : mi_aast pc ls st h = some N) : ∃ v i a r xs fs, st = .ref v :: .int i :: .ref a :: r ∧ h[a]? = some (.inr (2, .inr xs)) ∧ ¬ (i < 0 ∨ xs.length ≤ i.toNatClampNeg) ∧ h[v]? = some (.inl (1, fs)) ∧ N = .inl (pc + 1, ls, r, h.set a (.inr (2, .inr (xs.set i.toNatClampNeg (some v))))) := by
  unfold mi_aast at e
  split at e
  · split at e
    · rename_i q1
      split at e
      · cases e
      · rename_i q2
        split at e
        · rename_i q3; cases e; exact ⟨_, _, _, _, _, _, rfl, q1, q2, q3, rfl⟩
        · cases e
    · cases e
  · cases e
theorem mi_inv_inv {kd c idx : Nat} (e : mi_inv kd c idx pc ls st h = some N) : (kd = 2 ∧ idx ∈ (mi_Ol[c]?).getD [] ∧ ∃ a r, st = .ref a :: r ∧ r.length ≤ 4 ∧ N = .inl (pc + 3, ls, r, h)) ∨
    ∃ k nest X, ((mi_Ml[c]?).getD []).lookup idx = some (k, nest) ∧ mi_L[k]? = some X ∧ X.2.2.2.2.1 = kd ∧ X.2.2.2.2.2.1 ≤ st.length ∧ (st.drop X.2.2.2.2.2.1).length ≤ 8 ∧
      ((kd = 0 ∧ N = .inr (.inl (k, (st.take X.2.2.2.2.2.1).reverse, (pc + 3, ls, st.drop X.2.2.2.2.2.1, h)))) ∨
       (kd ≠ 0 ∧ ∃ b r ci fs q, st.drop X.2.2.2.2.2.1 = .ref b :: r ∧ h[b]? = some (.inl (ci, fs)) ∧ mi_V[ci]? = some q ∧ q.1 = mi_cn X.2.1 ∧ N = .inr (.inl (k, .ref b :: (st.take X.2.2.2.2.2.1).reverse, (pc + 3, ls, r, h))))) := by
  unfold mi_inv at e
  split at e
  · rename_i q
    obtain ⟨q1, q2⟩ := q
    split at e
    · split at e
      · rename_i q3; cases e; exact Or.inl ⟨q1, by simpa using q2, _, _, rfl, q3, rfl⟩
      · cases e
    · cases e
  · split at e
    · rename_i q1
      split at e
      · rename_i q2
        split at e
        · rename_i q3
          obtain ⟨q3, q4, q5⟩ := q3
          split at e
          · rename_i q6; cases e; exact Or.inr ⟨_, _, _, q1, q2, q3, q4, q5, Or.inl ⟨q6, rfl⟩⟩
          · rename_i q6
            split at e
            · rename_i q7
              split at e
              · rename_i q8
                split at e
                · rename_i q9
                  split at e
                  · rename_i q10; cases e; exact Or.inr ⟨_, _, _, q1, q2, q3, q4, q5, Or.inr ⟨q6, _, _, _, _, _, q7, q8, q9, q10, rfl⟩⟩
                  · cases e
                · cases e
              · cases e
            · cases e
        · cases e
      · cases e
    · cases e
theorem mi_ret_inv {rt : Option FieldType} (e : mi_ret rt st h = some N) : ∃ ty v, rt = some ty ∧ st = [.int v] ∧ narrow ty (.int v) = .int v ∧ N = .inr (.inr (some (.int v), h)) := by
  unfold mi_ret at e
  split at e
  · cases e; exact ⟨_, _, rfl, rfl, rfl, rfl⟩
  · split at e
    · rename_i q; cases e; exact ⟨_, _, rfl, rfl, by simp only [narrow]; rw [q], rfl⟩
    · cases e
  · cases e
theorem mi_aret_inv {rt : Option FieldType} (e : mi_aret rt st h = some N) : ∃ C v, rt = some (.object C) ∧ st = [v] ∧ (v = .null ∨ ∃ a, v = .ref a) ∧ N = .inr (.inr (some v, h)) := by
  unfold mi_aret at e
  split at e
  · cases e; exact ⟨_, _, rfl, rfl, Or.inr ⟨_, rfl⟩, rfl⟩
  · cases e; exact ⟨_, _, rfl, rfl, Or.inl rfl, rfl⟩
  · cases e
theorem mi_vret_inv {rt : Option FieldType} (e : mi_vret rt st h = some N) : rt = none ∧ st = [] ∧ N = .inr (.inr (none, h)) := by
  unfold mi_vret at e
  split at e
  · cases e; exact ⟨rfl, rfl, rfl⟩
  · cases e
end INV
/-- what is carried and stored points into the heap -/
def mi_ok (n : Nat) : Value → Prop
  | .ref k => k < n
  | .int _ => True
  | .null => True
  | .retAddr _ => True
  | _ => False
def mi_okc (n : Nat) : mi_C → Prop
  | .inl (_, fs) => ∀ v ∈ fs, mi_ok n v
  | .inr (_, .inl _) => True
  | .inr (_, .inr rs) => ∀ k, some k ∈ rs → k < n
def mi_okh (n : Nat) (h : mi_H) : Prop := ∀ c ∈ h, mi_okc n c
def mi_okF (nL : Nat) (F : mi_F) : Prop := F.2.1.length = nL ∧ (∀ v, some v ∈ F.2.1 → mi_ok F.2.2.2.length v) ∧ (∀ v ∈ F.2.2.1, mi_ok F.2.2.2.length v) ∧ mi_okh F.2.2.2.length F.2.2.2
def mi_szc : mi_C → Nat
  | .inl (_, fs) => fs.length
  | .inr (_, .inl xs) => xs.length
  | .inr (_, .inr xs) => xs.length
def mi_sz (h : mi_H) : Nat := (h.map mi_szc).sum
theorem mi_ok_mono {n m : Nat} (hnm : n ≤ m) {v : Value} (h : mi_ok n v) : mi_ok m v := by
  cases v <;> first | exact h | exact Nat.lt_of_lt_of_le h hnm
theorem mi_okc_mono {n m : Nat} (hnm : n ≤ m) {c : mi_C} (h : mi_okc n c) : mi_okc m c := by
  obtain ⟨ci, fs⟩ | ⟨t, xs | xs⟩ := c
  · exact fun v hv => mi_ok_mono hnm (h v hv)
  · trivial
  · exact fun k hk => Nat.lt_of_lt_of_le (h k hk) hnm
theorem mi_okh_mono {n m : Nat} (hnm : n ≤ m) {h : mi_H} (hh : mi_okh n h) : mi_okh m h := fun c hc => mi_okc_mono hnm (hh c hc)
theorem mi_okh_get {n : Nat} {h : mi_H} (hh : mi_okh n h) {a : Nat} {c : mi_C} (e : h[a]? = some c) : mi_okc n c := hh c (List.mem_of_getElem? e)
theorem mi_okh_set {n : Nat} {h : mi_H} (hh : mi_okh n h) {a : Nat} {c : mi_C} (e : mi_okc n c) : mi_okh n (h.set a c) := fun x hx => by
  rcases List.mem_or_eq_of_mem_set hx with q | q
  · exact hh x q
  · rw [q]; exact e
theorem mi_okL_set {n k : Nat} {L : List (Option Value)} (hL : ∀ v, some v ∈ L → mi_ok n v) {v : Value} (hv : mi_ok n v) : ∀ w, some w ∈ L.set k (some v) → mi_ok n w := fun w hw => by
  rcases List.mem_or_eq_of_mem_set hw with q | q
  · exact hL w q
  · cases q; exact hv
theorem mi_sz_set {h : mi_H} {a : Nat} {c0 c : mi_C} (e : h[a]? = some c0) (hs : mi_szc c = mi_szc c0) : mi_sz (h.set a c) = mi_sz h := by
  unfold mi_sz
  congr 1
  apply List.ext_getElem?
  intro j
  rw [List.getElem?_map, List.getElem?_map, List.getElem?_set]
  split
  · rename_i q; subst q
    obtain ⟨hl, hv⟩ := List.getElem?_eq_some_iff.mp e
    simp [hl, hv, hs]
  · rfl
theorem mi_sz_push {h : mi_H} {c : mi_C} : mi_sz (h ++ [c]) = mi_sz h + mi_szc c := by simp [mi_sz]
/-- the invariant of a step -/
def mi_okN (nL : Nat) (h : mi_H) : mi_N → Prop
  | .inl F => mi_okF nL F ∧ h.length ≤ F.2.2.2.length ∧ mi_sz h ≤ mi_sz F.2.2.2
  | .inr (.inl (_, as, F)) => mi_okF nL F ∧ F.2.2.2 = h ∧ ∀ v ∈ as, mi_ok h.length v
  | .inr (.inr (r, h')) => h' = h ∧ ∀ v, r = some v → mi_ok h.length v
end
section
theorem mi_okN_next {nL pc : Nat} {L L' : List (Option Value)} {st : List Value} {h : mi_H} (hl : L'.length = nL) (hL : ∀ v, some v ∈ L' → mi_ok h.length v) (hs : ∀ v ∈ st, mi_ok h.length v) (hh : mi_okh h.length h) : mi_okN nL h (.inl (pc, L', st, h)) := ⟨⟨hl, hL, hs, hh⟩, Nat.le_refl _, Nat.le_refl _⟩
theorem mi_okN_set {nL pc a : Nat} {L' : List (Option Value)} {st : List Value} {h : mi_H} {c0 c : mi_C} (hl : L'.length = nL) (hL : ∀ v, some v ∈ L' → mi_ok h.length v) (hs : ∀ v ∈ st, mi_ok h.length v) (hh : mi_okh h.length h) (ha : h[a]? = some c0) (hc : mi_okc h.length c) (hz : mi_szc c = mi_szc c0) : mi_okN nL h (.inl (pc, L', st, h.set a c)) := by
  refine ⟨⟨hl, ?_, ?_, ?_⟩, ?_, ?_⟩
  · intro v hv; simp only [List.length_set]; exact hL v hv
  · intro v hv; simp only [List.length_set]; exact hs v hv
  · simp only [List.length_set]; exact mi_okh_set hh hc
  · simp only [List.length_set]; exact Nat.le_refl _
  · exact Nat.le_of_eq (mi_sz_set ha hz).symm
theorem mi_okN_push {nL pc : Nat} {L' : List (Option Value)} {st : List Value} {h : mi_H} {c : mi_C} (hl : L'.length = nL) (hL : ∀ v, some v ∈ L' → mi_ok h.length v) (hs : ∀ v ∈ st, mi_ok h.length v) (hh : mi_okh h.length h) (hc : mi_okc h.length c) : mi_okN nL h (.inl (pc, L', .ref h.length :: st, h ++ [c])) := by
  have hn : (h ++ [c]).length = h.length + 1 := by simp
  refine ⟨⟨hl, ?_, ?_, ?_⟩, ?_, ?_⟩
  · intro v hv; simp only [hn]; exact mi_ok_mono (Nat.le_succ _) (hL v hv)
  · simp only [hn]
    exact List.forall_mem_cons.mpr ⟨Nat.lt_succ_self _, fun v hv => mi_ok_mono (Nat.le_succ _) (hs v hv)⟩
  · simp only [hn]
    intro x hx
    rcases List.mem_append.mp hx with q | q
    · exact mi_okc_mono (Nat.le_succ _) (hh x q)
    · rw [List.mem_singleton.mp q]; exact mi_okc_mono (Nat.le_succ _) hc
  · simp only [hn]; exact Nat.le_succ _
  · show mi_sz h ≤ mi_sz (h ++ [c]); rw [mi_sz_push]; exact Nat.le_add_right _ _
theorem mi_ok_default (n : Nat) (ty : FieldType) (h : mi_fit ty (defaultValue ty) = true) : mi_ok n (defaultValue ty) := by
  cases ty <;> first | trivial | (simp [mi_fit, defaultValue] at h)
theorem mi_V_fit : ∀ q ∈ mi_V, ∀ k, k < q.2.2.1 → mi_fit (q.2.2.2 k) (defaultValue (q.2.2.2 k)) = true := by
  have e : mi_V.all (fun q => (List.range q.2.2.1).all (fun k => mi_fit (q.2.2.2 k) (defaultValue (q.2.2.2 k)))) = true := by decide +kernel
  intro q hq k hk
  exact List.all_eq_true.mp (List.all_eq_true.mp e q hq) k (List.mem_range.mpr hk)
set_option maxHeartbeats 4000000 in
theorem mi_op_ok {X : mi_M} {i : Instr} {n nL pc : Nat} {ls : List (Option Value)} {st : List Value} {h : mi_H} {N : mi_N} (e : mi_op X i n pc ls st h = some N) (hF : mi_okF nL (pc, ls, st, h)) : mi_okN nL h N := by
  obtain ⟨h1, h2, h3, h4⟩ := hF
  dsimp only at h1 h2 h3 h4
  have hint : ∀ {x : Int32} {r : List Value}, (∀ v ∈ r, mi_ok h.length v) → ∀ v ∈ Value.int x :: r, mi_ok h.length v := fun hr => List.forall_mem_cons.mpr ⟨trivial, hr⟩
  have t1 : ∀ {v : Value} {r : List Value}, (∀ w ∈ v :: r, mi_ok h.length w) → ∀ w ∈ r, mi_ok h.length w := fun hr => (List.forall_mem_cons.mp hr).2
  have t0 : ∀ {v : Value} {r : List Value}, (∀ w ∈ v :: r, mi_ok h.length w) → mi_ok h.length v := fun hr => (List.forall_mem_cons.mp hr).1
  have bin : ∀ {f : Int32 → Int32 → Int32}, mi_bin f pc ls st h = some N → mi_okN nL h N := fun e => by
    obtain ⟨x, y, r, rfl, rfl⟩ := mi_bin_inv e
    exact mi_okN_next h1 h2 (hint (t1 (t1 h3))) h4 (L := ls)
  have div : ∀ {f : Int32 → Int32 → Int32}, mi_div f pc ls st h = some N → mi_okN nL h N := fun e => by
    obtain ⟨x, y, r, rfl, -, rfl⟩ := mi_div_inv e
    exact mi_okN_next h1 h2 (hint (t1 (t1 h3))) h4 (L := ls)
  have ild : ∀ {k m : Nat}, mi_iload k m pc ls st h = some N → mi_okN nL h N := fun e => by
    obtain ⟨x, -, rfl⟩ := mi_iload_inv e
    exact mi_okN_next h1 h2 (hint h3) h4 (L := ls)
  have ald : ∀ {k m : Nat}, mi_aload k m pc ls st h = some N → mi_okN nL h N := fun e => by
    rcases mi_aload_inv e with ⟨x, q, rfl⟩ | ⟨q, rfl⟩
    · exact mi_okN_next h1 h2 (List.forall_mem_cons.mpr ⟨h2 _ (List.mem_of_getElem? q), h3⟩) h4 (L := ls)
    · exact mi_okN_next h1 h2 (List.forall_mem_cons.mpr ⟨trivial, h3⟩) h4 (L := ls)
  have ist : ∀ {k m : Nat}, mi_istore k m pc ls st h = some N → mi_okN nL h N := fun e => by
    obtain ⟨x, r, rfl, hk, rfl⟩ := mi_istore_inv e
    exact mi_okN_next (by rw [List.length_set]; exact h1) (mi_okL_set h2 trivial) (t1 h3) h4 (L := ls)
  have ast : ∀ {k m : Nat}, mi_astore k m pc ls st h = some N → mi_okN nL h N := fun e => by
    obtain ⟨hk, ⟨x, r, rfl, rfl⟩ | ⟨r, rfl, rfl⟩⟩ := mi_astore_inv e
    · exact mi_okN_next (by rw [List.length_set]; exact h1) (mi_okL_set h2 (t0 h3)) (t1 h3) h4 (L := ls)
    · exact mi_okN_next (by rw [List.length_set]; exact h1) (mi_okL_set h2 trivial) (t1 h3) h4 (L := ls)
  have inv : ∀ {kd c idx : Nat}, mi_inv kd c idx pc ls st h = some N → mi_okN nL h N := fun e => by
    rcases mi_inv_inv e with ⟨-, -, a, r, rfl, -, rfl⟩ | ⟨k, nest, Y, -, -, -, -, -, ⟨-, rfl⟩ | ⟨-, b, r, ci, fs, q, hd, -, -, -, rfl⟩⟩
    · exact mi_okN_next h1 h2 (t1 h3) h4 (L := ls)
    · refine ⟨⟨h1, h2, fun v hv => h3 v (List.mem_of_mem_drop hv), h4⟩, rfl, fun v hv => h3 v (List.mem_of_mem_take (List.mem_reverse.mp hv))⟩
    · have hd3 : ∀ v ∈ Value.ref b :: r, mi_ok h.length v := fun v hv => h3 v (List.mem_of_mem_drop (by rw [hd]; exact hv))
      exact ⟨⟨h1, h2, t1 hd3, h4⟩, rfl, List.forall_mem_cons.mpr ⟨t0 hd3, fun v hv => h3 v (List.mem_of_mem_take (List.mem_reverse.mp hv))⟩⟩
  unfold mi_op at e
  split at e
  · cases e; exact mi_okN_next h1 h2 (hint h3) h4 (L := ls)
  · cases e; exact mi_okN_next h1 h2 (hint h3) h4 (L := ls)
  · cases e; exact mi_okN_next h1 h2 (hint h3) h4 (L := ls)
  · cases e; exact mi_okN_next h1 h2 (List.forall_mem_cons.mpr ⟨trivial, h3⟩) h4 (L := ls)
  · exact ild e
  · exact ild e
  · exact ald e
  · exact ald e
  · exact ist e
  · exact ist e
  · exact ast e
  · exact ast e
  · obtain ⟨x, -, rfl⟩ := mi_iinc_inv e
    exact mi_okN_next (by rw [List.length_set]; exact h1) (mi_okL_set h2 trivial) h3 h4 (L := ls)
  · exact bin e
  · exact bin e
  · exact bin e
  · exact bin e
  · exact bin e
  · exact bin e
  · exact bin e
  · exact bin e
  · exact bin e
  · exact div e
  · exact div e
  · split at e
    · cases e; exact mi_okN_next h1 h2 (hint (t1 h3)) h4 (L := ls)
    · cases e
  · split at e
    · split at e
      · cases e; exact mi_okN_next h1 h2 (List.forall_mem_cons.mpr ⟨t0 h3, h3⟩) h4 (L := ls)
      · cases e
    · cases e
  · split at e
    · split at e
      · cases e; exact mi_okN_next h1 h2 (List.forall_mem_cons.mpr ⟨t0 h3, List.forall_mem_cons.mpr ⟨t0 (t1 h3), h3⟩⟩) h4 (L := ls)
      · cases e
    · cases e
  · split at e
    · split at e
      · cases e; exact mi_okN_next h1 h2 (t1 h3) h4 (L := ls)
      · cases e
    · cases e
  · obtain ⟨t, -, rfl⟩ := mi_goto_inv e
    exact mi_okN_next h1 h2 h3 h4 (L := ls)
  · obtain ⟨x, r, rfl, ⟨-, t, -, rfl⟩ | ⟨-, rfl⟩⟩ := mi_if1_inv e
    · exact mi_okN_next h1 h2 (t1 h3) h4 (L := ls)
    · exact mi_okN_next h1 h2 (t1 h3) h4 (L := ls)
  · obtain ⟨x, y, r, rfl, ⟨-, t, -, rfl⟩ | ⟨-, rfl⟩⟩ := mi_if2_inv e
    · exact mi_okN_next h1 h2 (t1 (t1 h3)) h4 (L := ls)
    · exact mi_okN_next h1 h2 (t1 (t1 h3)) h4 (L := ls)
  · rcases mi_ifnT_inv e with ⟨r, rfl, t, -, rfl⟩ | ⟨x, r, rfl, rfl⟩
    · exact mi_okN_next h1 h2 (t1 h3) h4 (L := ls)
    · exact mi_okN_next h1 h2 (t1 h3) h4 (L := ls)
  · rcases mi_ifnF_inv e with ⟨x, r, rfl, t, -, rfl⟩ | ⟨r, rfl, rfl⟩
    · exact mi_okN_next h1 h2 (t1 h3) h4 (L := ls)
    · exact mi_okN_next h1 h2 (t1 h3) h4 (L := ls)
  · obtain ⟨x, r, rfl, ⟨-, t, -, rfl⟩ | ⟨-, off, -, t, -, rfl⟩⟩ := mi_tsw_inv e
    · exact mi_okN_next h1 h2 (t1 h3) h4 (L := ls)
    · exact mi_okN_next h1 h2 (t1 h3) h4 (L := ls)
  · obtain ⟨x, r, rfl, -, t, -, rfl⟩ := mi_lsw_inv e
    exact mi_okN_next h1 h2 (t1 h3) h4 (L := ls)
  · obtain ⟨a, r, ci, k, nest, fs, v, rfl, -, ha, hv, rfl⟩ := mi_get_inv e
    exact mi_okN_next h1 h2 (List.forall_mem_cons.mpr ⟨mi_okh_get h4 ha v (List.mem_of_getElem? hv), t1 h3⟩) h4 (L := ls)
  · obtain ⟨v, a, r, ci, k, nest, fs, rfl, -, ha, hk, -, rfl⟩ := mi_put_inv e
    refine mi_okN_set h1 h2 (t1 (t1 h3)) h4 ha ?_ (by simp [mi_szc])
    intro w hw
    rcases List.mem_or_eq_of_mem_set hw with q | q
    · exact mi_okh_get h4 ha w q
    · rw [q]; exact t0 h3
  · obtain ⟨j, -, rfl⟩ := mi_gets_inv e
    exact mi_okN_next h1 h2 (List.forall_mem_cons.mpr ⟨trivial, h3⟩) h4 (L := ls)
  · obtain ⟨ci, q, -, hq, rfl⟩ := mi_new_inv e
    refine mi_okN_push h1 h2 h3 h4 ?_
    intro v hv
    obtain ⟨k, hk, rfl⟩ := List.mem_map.mp hv
    exact mi_ok_default _ _ (mi_V_fit q (List.mem_of_getElem? hq) k (List.mem_range.mp hk))
  · obtain ⟨n, r, rfl, -, -, rfl⟩ := mi_newa_inv e
    exact mi_okN_push h1 h2 (t1 h3) h4 trivial
  · obtain ⟨n, r, rfl, -, -, rfl⟩ := mi_newa_inv e
    exact mi_okN_push h1 h2 (t1 h3) h4 trivial
  · obtain ⟨n, r, rfl, -, -, -, rfl⟩ := mi_newq_inv e
    refine mi_okN_push h1 h2 (t1 h3) h4 ?_
    intro k hk
    exact absurd (List.eq_of_mem_replicate hk) (by simp)
  · obtain ⟨a, r, xs, rfl, -, rfl⟩ := mi_alen_inv e
    exact mi_okN_next h1 h2 (hint (t1 h3)) h4 (L := ls)
  · rcases mi_iald_inv e with ⟨i, a, r, xs, x, rfl, -, -, -, rfl⟩ | ⟨i, j, r, q, x, rfl, -, -, -, rfl⟩
    · exact mi_okN_next h1 h2 (hint (t1 (t1 h3))) h4 (L := ls)
    · exact mi_okN_next h1 h2 (hint (t1 (t1 h3))) h4 (L := ls)
  · obtain ⟨x, i, a, r, xs, rfl, ha, -, rfl⟩ := mi_iast_inv e
    exact mi_okN_set h1 h2 (t1 (t1 (t1 h3))) h4 ha trivial (by simp [mi_szc])
  · obtain ⟨i, a, r, xs, x, rfl, -, -, -, rfl⟩ := mi_bald_inv e
    exact mi_okN_next h1 h2 (hint (t1 (t1 h3))) h4 (L := ls)
  · obtain ⟨x, i, a, r, xs, rfl, ha, -, rfl⟩ := mi_bast_inv e
    exact mi_okN_set h1 h2 (t1 (t1 (t1 h3))) h4 ha trivial (by simp [mi_szc])
  · obtain ⟨i, a, r, xs, rfl, ha, -, ⟨x, hx, rfl⟩ | ⟨-, rfl⟩⟩ := mi_aald_inv e
    · exact mi_okN_next h1 h2 (List.forall_mem_cons.mpr ⟨mi_okh_get h4 ha x (List.mem_of_getElem? hx), t1 (t1 h3)⟩) h4 (L := ls)
    · exact mi_okN_next h1 h2 (List.forall_mem_cons.mpr ⟨trivial, t1 (t1 h3)⟩) h4 (L := ls)
  · obtain ⟨v, i, a, r, xs, fs, rfl, ha, -, -, rfl⟩ := mi_aast_inv e
    refine mi_okN_set h1 h2 (t1 (t1 (t1 h3))) h4 ha ?_ (by simp [mi_szc])
    intro k hk
    rcases List.mem_or_eq_of_mem_set hk with q | q
    · exact mi_okh_get h4 ha k q
    · cases q; exact t0 h3
  · exact inv e
  · exact inv e
  · exact inv e
  · obtain ⟨ty, v, -, rfl, -, rfl⟩ := mi_ret_inv e
    exact ⟨rfl, fun w hw => by cases hw; trivial⟩
  · obtain ⟨C, v, -, rfl, -, rfl⟩ := mi_aret_inv e
    exact ⟨rfl, fun w hw => by cases hw; exact t0 h3⟩
  · obtain ⟨-, -, rfl⟩ := mi_vret_inv e
    exact ⟨rfl, fun w hw => by cases hw⟩
  · cases e
/-- what a whole run keeps -/
def mi_okR (h : mi_H) (r : Option Value) (h' : mi_H) : Prop := mi_okh h'.length h' ∧ (∀ v, r = some v → mi_ok h'.length v) ∧ h.length ≤ h'.length ∧ mi_sz h ≤ mi_sz h'
/-- one step of a run, and what is left of it -/
def mi_fin (call : Nat → List Value → mi_H → Option Value → mi_H → Prop) (X : mi_M) (n : Nat) (r : Option Value) (h' : mi_H) : mi_N → Prop
  | .inl F' => mi_it call X n F' r h'
  | .inr (.inl (k, as, F')) => ∃ r1 h1, call k as F'.2.2.2 r1 h1 ∧ mi_it call X n (F'.1, F'.2.1, r1.toList ++ F'.2.2.1, h1) r h'
  | .inr (.inr (r0, h0)) => r = r0 ∧ h' = h0
theorem mi_it_step {call : Nat → List Value → mi_H → Option Value → mi_H → Prop} {X : mi_M} {n : Nat} {F : mi_F} {r : Option Value} {h' : mi_H} (q : mi_it call X (n + 1) F r h') : ∃ i m, mi_look X.1 F.1 = some (i, m) ∧ ∃ N, mi_op X i m F.1 F.2.1 F.2.2.1 F.2.2.2 = some N ∧ mi_fin call X n r h' N := by
  unfold mi_it mi_st at q
  split at q
  · rename_i F' e
    split at e
    · rename_i i m e2; exact ⟨i, m, e2, _, e, q⟩
    · cases e
  · rename_i k as F' e
    split at e
    · rename_i i m e2; exact ⟨i, m, e2, _, e, q⟩
    · cases e
  · rename_i r0 h0 e
    split at e
    · rename_i i m e2; exact ⟨i, m, e2, _, e, q⟩
    · cases e
  · exact absurd q id
theorem mi_it_ok {call : Nat → List Value → mi_H → Option Value → mi_H → Prop} (hc : ∀ k as h r h', call k as h r h' → (∀ v ∈ as, mi_ok h.length v) → mi_okh h.length h → mi_okR h r h') {X : mi_M} {nL : Nat} : ∀ (n : Nat) (F : mi_F) (r : Option Value) (h' : mi_H), mi_it call X n F r h' → mi_okF nL F → mi_okR F.2.2.2 r h' := by
  intro n
  induction n with
  | zero => intro F r h' q; exact absurd q id
  | succ n ih =>
    intro F r h' q hF
    obtain ⟨i, m, -, N, e, hf⟩ := mi_it_step q
    obtain ⟨pc, ls, st, h⟩ := F
    have hN := mi_op_ok e hF
    obtain F' | ⟨k, as, F'⟩ | ⟨r0, h0⟩ := N
    · obtain ⟨a1, a2, a3⟩ := hN
      obtain ⟨b1, b2, b3, b4⟩ := ih _ _ _ hf a1
      exact ⟨b1, b2, Nat.le_trans a2 b3, Nat.le_trans a3 b4⟩
    · obtain ⟨⟨c1, c2, c3, c4⟩, a2, a3⟩ := hN
      obtain ⟨r1, h1, g1, g2⟩ := hf
      obtain ⟨pc', ls', st', h2⟩ := F'
      dsimp only at a2 c1 c2 c3 c4 g1 g2
      subst a2
      obtain ⟨d1, d2, d3, d4⟩ := hc _ _ _ _ _ g1 a3 c4
      obtain ⟨b1, b2, b3, b4⟩ := ih _ _ _ g2 ⟨c1, fun v hv => mi_ok_mono d3 (c2 v hv), fun v hv => by
        rcases List.mem_append.mp hv with z | z
        · exact d2 v (by cases r1 with
            | none => cases z
            | some w => rw [List.mem_singleton.mp z])
        · exact mi_ok_mono d3 (c3 v z), d1⟩
      exact ⟨b1, b2, Nat.le_trans d3 b3, Nat.le_trans d4 b4⟩
    · obtain ⟨a1, a2⟩ := hN
      obtain ⟨rfl, rfl⟩ := hf
      subst a1
      exact ⟨hF.2.2.2, a2, Nat.le_refl _, Nat.le_refl _⟩
theorem mi_okF_en {X : mi_M} {as : List Value} {h : mi_H} (hl : as.length ≤ X.2.2.2.1) (ha : ∀ v ∈ as, mi_ok h.length v) (hh : mi_okh h.length h) : mi_okF X.2.2.2.1 (mi_en X as h) := by
  refine ⟨by simp [mi_en]; omega, fun v hv => ?_, (fun v hv => by cases hv), hh⟩
  rcases List.mem_append.mp hv with z | z
  · obtain ⟨w, hw, e⟩ := List.mem_map.mp z
    cases e
    exact ha v hw
  · exact absurd (List.eq_of_mem_replicate z) (by simp)
theorem mi_Ca_ok : ∀ (d k : Nat) (as : List Value) (h : mi_H) (r : Option Value) (h' : mi_H), mi_Ca d k as h r h' → (∀ v ∈ as, mi_ok h.length v) → mi_okh h.length h → mi_okR h r h' := by
  intro d
  induction d with
  | zero => intro k as h r h' q; exact absurd q id
  | succ d ih =>
    intro k as h r h' q ha hh
    obtain ⟨X, n, -, hl, hi⟩ := q
    exact mi_it_ok (fun k as h r h' q => ih k as h r h' q) n _ _ _ hi (mi_okF_en hl ha hh)
end
section
/-! THE MINI MACHINE IS THE MACHINE: a run of the one is a contract of the other -/
def mi_v (σ cs : Nat → Nat) : Value → Value
  | .ref k => .ref (σ k)
  | .retAddr j => .ref (cs j)
  | v => v
def mi_e (cA : Nat → ClassId) (σ cs : Nat → Nat) : mi_C → va_E
  | .inl (ci, fs) => .inr (ci, fs.map (mi_v σ cs))
  | .inr (t, .inl xs) => .inl (cA t, xs.length, .inl (fun j => xs.getD j 0))
  | .inr (t, .inr rs) => .inl (cA t, rs.length, .inr (.inr (.inr (.inr (fun j => (rs.getD j none).map σ)))))
def mi_w (cA : Nat → ClassId) (σ cs : Nat → Nat) (h : mi_H) : va_W := h.mapIdx (fun k c => (σ k, mi_e cA σ cs c))
def mi_up (σ : Nat → Nat) (n q : Nat) : Nat → Nat := fun k => if k = n then q else σ k
theorem mi_w_get {cA : Nat → ClassId} {σ cs : Nat → Nat} {h : mi_H} {k : Nat} : (mi_w cA σ cs h)[k]? = (h[k]?).map (fun c => (σ k, mi_e cA σ cs c)) := by simp [mi_w, List.getElem?_mapIdx]
theorem mi_w_at {cA : Nat → ClassId} {σ cs : Nat → Nat} {h : mi_H} {k : Nat} {c : mi_C} (e : h[k]? = some c) : (mi_w cA σ cs h)[k]? = some (σ k, mi_e cA σ cs c) := by rw [mi_w_get, e]; rfl
theorem mi_w_set {cA : Nat → ClassId} {σ cs : Nat → Nat} {h : mi_H} {k : Nat} {c : mi_C} : (mi_w cA σ cs h).set k (σ k, mi_e cA σ cs c) = mi_w cA σ cs (h.set k c) := by
  apply List.ext_getElem?
  intro j
  rw [List.getElem?_set, mi_w_get, mi_w_get, List.getElem?_set]
  have hl : (mi_w cA σ cs h).length = h.length := by simp [mi_w]
  rw [hl]
  split
  · rename_i q; subst q
    split <;> rfl
  · rfl
theorem mi_v_congr {σ σ' cs : Nat → Nat} {n : Nat} (hs : ∀ k, k < n → σ' k = σ k) {v : Value} (h : mi_ok n v) : mi_v σ' cs v = mi_v σ cs v := by
  cases v <;> first | rfl | (show Value.ref _ = Value.ref _; rw [hs _ h])
theorem mi_e_congr {cA : Nat → ClassId} {σ σ' cs : Nat → Nat} {n : Nat} (hs : ∀ k, k < n → σ' k = σ k) {c : mi_C} (h : mi_okc n c) : mi_e cA σ' cs c = mi_e cA σ cs c := by
  obtain ⟨ci, fs⟩ | ⟨t, xs | rs⟩ := c
  · show Sum.inr (ci, fs.map (mi_v σ' cs)) = Sum.inr (ci, fs.map (mi_v σ cs))
    rw [List.map_congr_left (fun v hv => mi_v_congr hs (h v hv))]
  · rfl
  · show Sum.inl (cA t, rs.length, Sum.inr (Sum.inr (Sum.inr (Sum.inr (fun j => (rs.getD j none).map σ'))))) = Sum.inl (cA t, rs.length, Sum.inr (Sum.inr (Sum.inr (Sum.inr (fun j => (rs.getD j none).map σ)))))
    congr 7
    funext j
    cases hj : rs.getD j none with
    | none => rfl
    | some k =>
      have hk : some k ∈ rs := by
        rw [List.getD_eq_getElem?_getD] at hj
        cases hz : rs[j]? with
        | none => rw [hz] at hj; cases hj
        | some w => rw [hz] at hj; rw [show w = some k from hj] at hz; exact List.mem_of_getElem? hz
      simp [hs k (h k hk)]
theorem mi_w_congr {cA : Nat → ClassId} {σ σ' cs : Nat → Nat} {h : mi_H} (hs : ∀ k, k < h.length → σ' k = σ k) (hh : mi_okh h.length h) : mi_w cA σ' cs h = mi_w cA σ cs h := by
  apply List.ext_getElem?
  intro k
  rw [mi_w_get, mi_w_get]
  cases hk : h[k]? with
  | none => rfl
  | some c => simp [hs k (List.getElem?_eq_some_iff.mp hk).1, mi_e_congr hs (mi_okh_get hh hk)]
theorem mi_up_lt {σ : Nat → Nat} {n q : Nat} : ∀ k, k < n → mi_up σ n q k = σ k := fun k hk => by simp [mi_up, Nat.ne_of_lt hk]
theorem mi_w_push {cA : Nat → ClassId} {σ cs : Nat → Nat} {h : mi_H} {c : mi_C} {q : Nat} (hh : mi_okh h.length h) : mi_w cA σ cs h ++ [(q, mi_e cA (mi_up σ h.length q) cs c)] = mi_w cA (mi_up σ h.length q) cs (h ++ [c]) := by
  rw [← mi_w_congr (σ' := mi_up σ h.length q) mi_up_lt hh]
  simp [mi_w, List.mapIdx_append, mi_up]
/-- the three kinds of arrays -/
def mi_ty (cA : Nat → ClassId) : List (ClassId × FieldType) := [(cA 0, .int), (cA 1, .boolean), (cA 2, .object RX1)]
/-- what of the machine every method is told: the nest mates' links, the arrays over Device, the constant static arrays -/
def mi_K (cs : Nat → Nat) (A : Nat → Prop) (U : State) : Prop := (∀ w ∈ mi_nest, va_Nw w U) ∧ va_AO RX1 U ∧ ∀ (j : Nat) (q : String × List Int32), mi_Sv[j]? = some q → va_Z RX2 q.1 "[I" (.ref (cs j)) A U U.heap ∧ va_T .int (cs j) q.2.length (fun i => .int (q.2.getD i 0)) A U U.heap
theorem mi_nest_warm {s U : State} (hW : s.WarmedH U.vm) {w : Cond} (hw : w ∈ mi_nest) (h : va_Nw w s) : va_Nw w U := by
  have hk := (List.mem_filter.mp hw).2
  unfold mi_isN at hk
  split at hk
  · exact va_Nw.warmF hW h
  · exact va_Nw.warmM hW h
  · cases hk
theorem mi_K_call {cs : Nat → Nat} {A A' : Nat → Prop} {s U : State} {H : Heap} {locs : List Loc} (h : mi_K cs A s) (hS : va_S A s.heap H locs) (hU : U.heap = H) (hW : s.WarmedH U.vm) (hA : ∀ q, A' q → A q) : mi_K cs A' U := by
  obtain ⟨h1, h2, h3⟩ := h
  refine ⟨fun w hw => mi_nest_warm hW hw (h1 w hw), h2.moved hW.alike, fun j q hq => ?_⟩
  obtain ⟨a, b⟩ := h3 j q hq
  rw [hU]
  exact ⟨((a.moved hW.alike).kept hS.2.1).narrow hA, ((b.moved hW.alike).kept hS.2.1).narrow hA⟩
theorem mi_nest_same {u U : State} (hvm : u.vm = U.vm) {w : Cond} (hw : w ∈ mi_nest) (h : va_Nw w u) : va_Nw w U := by
  have hk := (List.mem_filter.mp hw).2
  unfold mi_isN at hk
  split at hk
  · exact va_Nw.same rfl hvm h
  · exact va_Nw.same rfl hvm h
  · cases hk
theorem mi_K_calling {cs : Nat → Nat} {A : Nat → Prop} {U : State} {g : JFrame} {mk : MethodId} {a : Array Value} (h : mi_K cs A U) : mi_K cs A (U.calling g mk a) := by
  obtain ⟨h1, h2, h3⟩ := h
  refine ⟨fun w hw => mi_nest_same (u := U) (U := U.calling g mk a) rfl hw (h1 w hw), h2.moved (u := U) (U := U.calling g mk a) (Vm.Alike.refl U.vm), fun j q hq => ?_⟩
  obtain ⟨b, c⟩ := h3 j q hq
  exact ⟨va_Z.moved (u := U) (U := U.calling g mk a) (Vm.Alike.refl U.vm) b, va_T.moved (u := U) (U := U.calling g mk a) (Vm.Alike.refl U.vm) c⟩
def mi_rm (d mc ms : Nat) : Room := { frames := d, cells := mc, slots := ms, locals := 64 * d }
def mi_wd (X : mi_M) : List Cond := Cond.code X.2.2.2.2.2.2.1 X.2.2.2.2.2.2.2 X.2.2.2.1 X.2.2.1 :: mi_Ts
def mi_B (D : va_G) (cA : Nat → ClassId) (cs σ : Nat → Nat) (h : mi_H) (sz : Nat) (U : State) : Prop := U.heap.size = sz ∧ va_P D vwCl (mi_w cA σ cs h) U.heap ∧ va_K D vwCl (mi_ty cA) U ∧ va_D (fun _ => True) (mi_w cA σ cs h) ∧ mi_K cs (va_A (mi_w cA σ cs h) sz) U
def mi_Pc (D : va_G) (cA : Nat → ClassId) (cs σ : Nat → Nat) (as : List Value) (h : mi_H) (sz : Nat) : Array Value → State → Prop := va_Pc (as.map (mi_v σ cs)) (mi_B D cA cs σ h sz)
def mi_Qc (D : va_G) (cA : Nat → ClassId) (cs σ : Nat → Nat) (h : mi_H) (sz : Nat) (r : Option Value) (h' : mi_H) : Array Value → State → Outcome → State → Prop := fun _ st oc t =>
  (∃ σ' : Nat → Nat, (∀ k, k < h.length → σ' k = σ k) ∧ oc = .returned (r.map (mi_v σ' cs)) ∧ va_P D vwCl (mi_w cA σ' cs h') t.heap ∧ va_K D vwCl (mi_ty cA) t ∧ va_D (va_A (mi_w cA σ cs h) sz) (mi_w cA σ' cs h')) ∧ va_F (va_A (mi_w cA σ cs h) sz) st t
theorem mi_Pc_blind {D : va_G} {cA : Nat → ClassId} {cs σ : Nat → Nat} {as : List Value} {h : mi_H} {sz : Nat} : FrameBlind (mi_Pc D cA cs σ as h sz) := by
  intro a U g mk q
  obtain ⟨q0, q1, qP, qK, qD, qk⟩ := q
  exact ⟨q0, q1, qP, va_K.moved (u := U) (U := U.calling g mk a) (Vm.Alike.refl U.vm) qK, qD, mi_K_calling qk⟩
/-- the locals -/
def mi_ll (σ cs : Nat → Nat) (L : List (Option Value)) : List (Nat × Value) := (L.zipIdx).filterMap (fun q => q.1.map (fun v => (q.2, mi_v σ cs v)))
def mi_lv (σ cs : Nat → Nat) (ls : Array Slot) (L : List (Option Value)) : Prop := ls.size = L.length ∧ lv_wf ls ∧ ∀ (i : Nat) (v : Value), L[i]? = some (some v) → ls[i]? = some (Slot.val (mi_v σ cs v))
theorem mi_ll_mem {σ cs : Nat → Nat} {L : List (Option Value)} {i : Nat} {w : Value} : (i, w) ∈ mi_ll σ cs L ↔ ∃ v, L[i]? = some (some v) ∧ w = mi_v σ cs v := by
  unfold mi_ll
  rw [List.mem_filterMap]
  constructor
  · rintro ⟨⟨o, j⟩, hq, e⟩
    have hq := List.mem_zipIdx_iff_getElem?.mp hq
    dsimp only at hq e
    cases o with
    | none => cases e
    | some v =>
      cases e
      exact ⟨v, hq, rfl⟩
  · rintro ⟨v, hv, rfl⟩
    exact ⟨(some v, i), List.mem_zipIdx_iff_getElem?.mpr hv, rfl⟩
theorem mi_lv_has {σ cs : Nat → Nat} {ls : Array Slot} {L : List (Option Value)} (h : mi_lv σ cs ls L) : lv_has ls L.length (mi_ll σ cs L) := by
  obtain ⟨h1, h2, h3⟩ := h
  refine ⟨h1, h2, fun q hq => ?_⟩
  obtain ⟨i, w⟩ := q
  obtain ⟨v, hv, rfl⟩ := mi_ll_mem.mp hq
  exact h3 i v hv
theorem mi_cat {n : Nat} {σ cs : Nat → Nat} {v : Value} (h : mi_ok n v) : (mi_v σ cs v).category = 1 := by
  cases v <;> first | rfl | exact absurd h id
theorem mi_lv_st {n : Nat} {σ cs : Nat → Nat} {ls' : Array Slot} {L : List (Option Value)} {i : Nat} {v : Value} (hL : ∀ v, some v ∈ L → mi_ok n v)
    (h : lv_has ls' L.length ((i, mi_v σ cs v) :: (mi_ll σ cs L).filter (fun q => !(q.1 == i) && !(q.1 + 1 == i && q.2.category == 2)))) (hi : i < L.length) : mi_lv σ cs ls' (L.set i (some v)) := by
  obtain ⟨h1, h2, h3⟩ := h
  refine ⟨by rw [List.length_set]; exact h1, h2, fun j w hj => ?_⟩
  by_cases q : i = j
  · subst q
    rw [List.getElem?_set_self hi] at hj
    cases hj
    exact h3 _ List.mem_cons_self
  · rw [List.getElem?_set_ne q] at hj
    have hm : (j, mi_v σ cs w) ∈ mi_ll σ cs L := mi_ll_mem.mpr ⟨w, hj, rfl⟩
    refine h3 (j, mi_v σ cs w) (List.mem_cons_of_mem _ (List.mem_filter.mpr ⟨hm, ?_⟩))
    have hc := mi_cat (σ := σ) (cs := cs) (hL w (List.mem_of_getElem? hj))
    simp only [hc]
    simp
    exact fun z => q z.symm
theorem mi_lv_up {n : Nat} {σ σ' cs : Nat → Nat} {ls : Array Slot} {L : List (Option Value)} (hs : ∀ k, k < n → σ' k = σ k) (hL : ∀ v, some v ∈ L → mi_ok n v) (h : mi_lv σ cs ls L) : mi_lv σ' cs ls L := by
  obtain ⟨h1, h2, h3⟩ := h
  exact ⟨h1, h2, fun i v hv => by rw [mi_v_congr hs (hL v (List.mem_of_getElem? hv))]; exact h3 i v hv⟩
theorem mi_lookup_mem2 {α : Type} {t : List (Nat × α)} {k : Nat} {x : α} (h : t.lookup k = some x) : (k, x) ∈ t := by
  induction t with
  | nil => cases h
  | cons a r ih =>
    obtain ⟨j, v⟩ := a
    rw [List.lookup_cons] at h
    by_cases e : k = j
    · subst e
      simp at h
      subst h
      exact List.mem_cons_self
    · have hb : (k == j) = false := by simpa using e
      rw [hb] at h
      exact List.mem_cons_of_mem _ (ih h)
theorem mi_V_at {ci : Nat} {q : String × u_T × Nat × (Nat → FieldType)} (h : mi_V[ci]? = some q) : vwCl[ci]? = some (q.1, q.2.1, q.2.2.1) := by
  rw [← mi_V_cl, List.getElem?_map, h]; rfl
theorem mi_fit_ok {σ cs : Nat → Nat} {ty : FieldType} {v : Value} (h : mi_fit ty v = true) : narrow ty (mi_v σ cs v) = mi_v σ cs v ∧ fits ty (mi_v σ cs v) = true := by
  cases ty <;> cases v <;> first | (exact ⟨rfl, rfl⟩) | (simp [mi_fit] at h)
end
section
section MIW
variable {p : Program} {l : Launch} {e : Env} {R : Room} {s : State} {m : MethodId} {args : Array Value} {below : List Frame} {meth : Method} {c : Code} {H : Heap} {locs : List Loc} {cells slots : Nat} {Q : State → Prop}
variable {cc : ByteArray} {pc : Nat} {ls : Array Slot} {rest : List Value}
theorem mi_if1_row (hexec : p.tables.exec = Jvm.exec) (hb : c.code = cc) {cd : ClassFile.Cond} {x : Int32} {off : Int} {tgt : Nat} (hdg : decode cc pc = .ok (.ifCond cd off, 3)) (ht : (pc : Int) + off = (tgt : Int)) (hh : Op.ifCond.holds cd x = true)
    (k : W p l e R s m args below meth c H locs cells slots Q (F0 m tgt ls rest)) : W p l e R s m args below meth c H locs cells slots Q (F0 m pc ls (.int x :: rest)) := by
  intro T hT X
  obtain ⟨t, a, b⟩ := k T hT X
  refine ⟨t, ?_, b⟩
  jvm_step X.here [X.here.top, hexec, hb, hdg, hh, ht]
  exact a
theorem mi_if1_not (hexec : p.tables.exec = Jvm.exec) (hb : c.code = cc) {cd : ClassFile.Cond} {x : Int32} {off : Int} (hdg : decode cc pc = .ok (.ifCond cd off, 3)) (hh : ¬ Op.ifCond.holds cd x = true)
    (k : W p l e R s m args below meth c H locs cells slots Q (F0 m (pc + 3) ls rest)) : W p l e R s m args below meth c H locs cells slots Q (F0 m pc ls (.int x :: rest)) := by
  intro T hT X
  obtain ⟨t, a, b⟩ := k T hT X
  refine ⟨t, ?_, b⟩
  jvm_step X.here [X.here.top, hexec, hb, hdg, hh]
  exact a
theorem mi_if2_row (hexec : p.tables.exec = Jvm.exec) (hb : c.code = cc) {cd : ClassFile.Cond} {x y : Int32} {off : Int} {tgt : Nat} (hdg : decode cc pc = .ok (.if_icmp cd off, 3)) (ht : (pc : Int) + off = (tgt : Int)) (hh : Op.if_icmp.holds cd x y = true)
    (k : W p l e R s m args below meth c H locs cells slots Q (F0 m tgt ls rest)) : W p l e R s m args below meth c H locs cells slots Q (F0 m pc ls (.int y :: .int x :: rest)) := by
  intro T hT X
  obtain ⟨t, a, b⟩ := k T hT X
  refine ⟨t, ?_, b⟩
  jvm_step X.here [X.here.top, hexec, hb, hdg, hh, ht]
  exact a
theorem mi_if2_not (hexec : p.tables.exec = Jvm.exec) (hb : c.code = cc) {cd : ClassFile.Cond} {x y : Int32} {off : Int} (hdg : decode cc pc = .ok (.if_icmp cd off, 3)) (hh : ¬ Op.if_icmp.holds cd x y = true)
    (k : W p l e R s m args below meth c H locs cells slots Q (F0 m (pc + 3) ls rest)) : W p l e R s m args below meth c H locs cells slots Q (F0 m pc ls (.int y :: .int x :: rest)) := by
  intro T hT X
  obtain ⟨t, a, b⟩ := k T hT X
  refine ⟨t, ?_, b⟩
  jvm_step X.here [X.here.top, hexec, hb, hdg, hh]
  exact a
variable {D : va_G} {cA : Nat → ClassId} {cs σ : Nat → Nat} {h h' : mi_H} {r : Option Value} {st0 : List Value} {a : Array Value} {A0 : Nat → Prop} {H0 : Heap} {mc ms : Nat} {free : Addr → Prop}
theorem mi_callrow (hr : va_Run p l e R s m args below meth c H locs cells slots mc ms (F0 m pc ls st0) rest (mi_Qc D cA cs σ h H.size r h' a) free) (hS : va_S A0 H0 H locs) (hA : ∀ q, q < H.size → va_A (mi_w cA σ cs h) H.size q → A0 q) (hf : ∀ q, free q → A0 q)
    (kk : ∀ (σ' : Nat → Nat) (t : State) (H1 : Heap) (locs1 : List Loc), t.heap = H1 → s.vm.Alike t.vm → (∀ k, k < h.length → σ' k = σ k) → va_P D vwCl (mi_w cA σ' cs h') H1 → va_K D vwCl (mi_ty cA) t → va_D (va_A (mi_w cA σ cs h) H.size) (mi_w cA σ' cs h') → H.size ≤ H1.size → (∀ q : Nat, q < H.size → ¬ va_A (mi_w cA σ cs h) H.size q → H1[q]? = H[q]?) → va_S A0 H0 H1 locs1 → W p l e R s m args below meth c H1 locs1 (cells + mc) (slots + ms) Q (F0 m (pc + 3) ls ((r.map (mi_v σ' cs)).toList ++ rest))) : W p l e R s m args below meth c H locs cells slots Q (F0 m pc ls st0) := by
  intro T hT X
  obtain ⟨v, st₀, t, T', L, h0, X', hL, e1, e2, ⟨⟨σ', g1, hv, g2, g3, g4⟩, hz, hk⟩, st⟩ := hr T hT X
  cases hv
  rw [h0] at hz hk
  obtain ⟨t2, a1, b1⟩ := kk σ' t T'.heap (locs ++ L) e1.symm (by rw [← e2]; exact X'.warmed.alike) g1 (by rw [e1]; exact g2) g3 g4 (by rw [e1]; exact hz) (fun q h1 h2 => by rw [e1]; exact hk q h1 h2)
    ⟨Nat.le_trans hS.1 (by rw [e1]; exact hz), fun q h1 h2 => by rw [e1, hk q (Nat.lt_of_lt_of_le h1 hS.1) (fun z => h2 (hA q (Nat.lt_of_lt_of_le h1 hS.1) z))]; exact hS.2.1 q h1 h2, fun q hq => by
      rcases List.mem_append.mp hq with h | h
      · exact hS.2.2 q h
      · exact hf _ (hL q h)⟩ T' rfl X'
  exact ⟨t2, st t2 a1, b1⟩
end MIW
theorem mi_catsum {n : Nat} {σ cs : Nat → Nat} : ∀ {st : List Value}, (∀ v ∈ st, mi_ok n v) → ((st.map (mi_v σ cs)).map fun v => v.category).sum = st.length
  | [], _ => rfl
  | v :: st, hs => by
    have h1 := mi_catsum (σ := σ) (cs := cs) (List.forall_mem_cons.mp hs).2
    have h2 := mi_cat (σ := σ) (cs := cs) (List.forall_mem_cons.mp hs).1
    simp only [List.map_cons, List.sum_cons, List.length_cons, h2, h1]
    omega
theorem mi_fun_set {xs : List Int32} {i : Nat} {x : Int32} (hi : i < xs.length) : upd (fun j => xs.getD j 0) i x = fun j => (xs.set i x).getD j 0 := by
  funext j
  simp only [upd, List.getD_eq_getElem?_getD, List.getElem?_set]
  by_cases q : j = i
  · subst q; simp [hi]
  · rw [if_neg q, if_neg (fun z : i = j => q z.symm)]
theorem mi_fun_setq {σ : Nat → Nat} {xs : List (Option Nat)} {i v : Nat} (hi : i < xs.length) : va_up (fun j => (xs.getD j none).map σ) i (some (σ v)) = fun j => ((xs.set i (some v)).getD j none).map σ := by
  funext j
  simp only [va_up, List.getD_eq_getElem?_getD, List.getElem?_set]
  by_cases q : j = i
  · subst q; simp [hi]
  · rw [if_neg q, if_neg (fun z : i = j => q z.symm)]
theorem mi_fun_new (n : Nat) : (fun j => (List.replicate n (0 : Int32)).getD j 0) = fun _ => 0 := by
  funext j
  simp only [List.getD_eq_getElem?_getD, List.getElem?_replicate]
  split <;> rfl
theorem mi_fun_newq (σ : Nat → Nat) (n : Nat) : (fun j => ((List.replicate n (none : Option Nat)).getD j none).map σ) = fun _ => none := by
  funext j
  simp only [List.getD_eq_getElem?_getD, List.getElem?_replicate]
  split <;> rfl
/-- what a body is told of its method -/
def mi_Cx (p : Program) (s : State) (m : MethodId) (args : Array Value) (meth : Method) (c : Code) (X : mi_M) (D : va_G) (cA : Nat → ClassId) (cs : Nat → Nat) (A : Nat → Prop) : Prop :=
  p.tables.exec = Jvm.exec ∧ c.code = X.2.2.2.2.2.2.2 ∧ c.maxLocals = X.2.2.2.1 ∧ meth.sig.returnType = X.2.2.1 ∧ (∀ w ∈ mi_wd X, w.before args s = true) ∧ s.vm.findClass (mi_cn X.2.1) = some m.cls ∧ meth.locks = false ∧ (X.2.2.2.2.1 = 2 → meth.name = "<init>") ∧ va_K D vwCl (mi_ty cA) s ∧ mi_K cs A s
/-- the contracts of what is called, at most d deep -/
def mi_IH (l : Launch) (D : va_G) (cA : Nat → ClassId) (cs : Nat → Nat) (d : Nat) : Prop := ∀ (k : Nat) (as : List Value) (h : mi_H) (r : Option Value) (h' : mi_H), mi_Ca d k as h r h' → (∀ v ∈ as, mi_ok h.length v) → mi_okh h.length h → ∀ X, mi_L[k]? = some X → ∀ (σ : Nat → Nat) (sz : Nat),
  Met l X.2.2.2.2.2.2.1 (mi_wd X) (mi_rm d (h'.length - h.length) (mi_sz h' - mi_sz h)) (mi_Pc D cA cs σ as h sz) (mi_Qc D cA cs σ h sz r h') (h'.length - h.length) (mi_sz h' - mi_sz h) (va_A (mi_w cA σ cs h) sz)
theorem mi_goodIn {X Y : mi_M} (hY : mi_okm Y) : GoodIn (mi_wd X) (mi_wd Y) := by
  intro w hw
  have hT : w ∈ mi_Ts := by
    rcases List.mem_cons.mp hw with q | q
    · rw [q]; exact hY.2.1
    · exact q
  exact ⟨List.mem_cons_of_mem _ hT, good_of_word (mi_Ts_good w hT)⟩
theorem mi_arr_eq {s : State} {D : va_G} {cA : Nat → ClassId} {c2 : ClassId} {ty : FieldType} {t0 : Nat} (hK : va_K D vwCl (mi_ty cA) s) (h0 : (mi_ty cA)[t0]? = some (cA t0, ty)) (h : va_K D vwCl (mi_ty cA ++ [(c2, ty)]) s) : c2 = cA t0 := by
  have a := (hK.2 t0 _ h0).2
  have b := (h.2 3 (c2, ty) rfl).2
  cases ty with
  | object C =>
    obtain ⟨_, _, -, -, -, a4⟩ := a
    obtain ⟨_, _, -, -, -, b4⟩ := b
    exact Option.some.inj (b4.symm.trans a4)
  | _ => exact Option.some.inj (b.symm.trans a)
set_option maxHeartbeats 16000000 in
set_option maxRecDepth 100000 in
theorem mi_walk {l : Launch} {D : va_G} {cA : Nat → ClassId} {cs : Nat → Nat} {d : Nat} (IH : mi_IH l D cA cs d) {p : Program} {e : Env} {s : State} {m : MethodId} {args : Array Value} {below : List Frame} {meth : Method} {c : Code} {X : mi_M} (hX : mi_okm X) {σ0 : Nat → Nat} {h0 : mi_H} {A : Nat → Prop} (hAe : va_A (mi_w cA σ0 cs h0) s.heap.size = A) (hC : mi_Cx p s m args meth c X D cA cs A) :
    ∀ (n pc : Nat) (L : List (Option Value)) (st : List Value) (h : mi_H) (r : Option Value) (h' : mi_H), mi_it (mi_Ca d) X n (pc, L, st, h) r h' → mi_okF X.2.2.2.1 (pc, L, st, h) → h0.length ≤ h.length → mi_sz h0 ≤ mi_sz h → ∀ (σ : Nat → Nat) (H : Heap) (locs : List Loc) (ls : Array Slot), (∀ k, k < h0.length → σ k = σ0 k) → va_P D vwCl (mi_w cA σ cs h) H → va_D A (mi_w cA σ cs h) → va_S A s.heap H locs → mi_lv σ cs ls L →
      W p l e (mi_rm (d + 1) (h'.length - h0.length) (mi_sz h' - mi_sz h0)) s m args below meth c H locs (h.length - h0.length) (mi_sz h - mi_sz h0) (MQ below (mi_Qc D cA cs σ0 h0 s.heap.size r h') args s (h'.length - h0.length) (mi_sz h' - mi_sz h0) A) (F0 m pc ls (st.map (mi_v σ cs))) := by
  obtain ⟨hx, hb, hml, hr, hts, hown, hlocks, hnm, hK, hKs⟩ := hC
  have hA : ∀ q : Nat, s.heap.size ≤ q → A q := fun q h => by rw [← hAe]; exact Or.inr h
  intro n
  induction n with
  | zero => intro pc L st h r h' q; exact absurd q id
  | succ n ih =>
    intro pc L st h r h' hit hF hlen hsz σ H locs ls hσ hP hD hS hlv
    obtain ⟨i, len, hlk, N, hop, hfin⟩ := mi_it_step hit
    dsimp only at hlk hop
    have hN := mi_op_ok hop hF
    obtain ⟨hL1, hL2, hst, hh⟩ := id hF
    dsimp only at hL1 hL2 hst hh
    have hdg := mi_look_ok hX.1 hlk
    clear hlk hit
    have hRok : ∀ F', N = .inl F' → F'.2.2.2.length ≤ h'.length ∧ mi_sz F'.2.2.2 ≤ mi_sz h' := by
      intro F' hF'
      subst hF'
      have q := mi_it_ok (mi_Ca_ok d) n F' r h' hfin hN.1
      exact ⟨q.2.2.1, q.2.2.2⟩
    have nx : ∀ (pc' : Nat) (L' : List (Option Value)) (st' : List Value) (ls' : Array Slot), N = .inl (pc', L', st', h) → mi_lv σ cs ls' L' → W p l e (mi_rm (d + 1) (h'.length - h0.length) (mi_sz h' - mi_sz h0)) s m args below meth c H locs (h.length - h0.length) (mi_sz h - mi_sz h0) (MQ below (mi_Qc D cA cs σ0 h0 s.heap.size r h') args s (h'.length - h0.length) (mi_sz h' - mi_sz h0) A) (F0 m pc' ls' (st'.map (mi_v σ cs))) := by
      intro pc' L' st' ls' hN' hlv'
      subst hN'
      exact ih pc' L' st' h r h' hfin hN.1 hlen hsz σ H locs ls' hσ hP hD hS hlv'
    have nxS : ∀ (a : Nat) (c0 c1 : mi_C) (pc' : Nat) (st' : List Value) (H1 : Heap) (locs1 : List Loc), N = .inl (pc', L, st', h.set a c1) → h[a]? = some c0 → mi_szc c1 = mi_szc c0 → va_P D vwCl (mi_w cA σ cs (h.set a c1)) H1 → va_D A (mi_w cA σ cs (h.set a c1)) → va_S A s.heap H1 locs1 → W p l e (mi_rm (d + 1) (h'.length - h0.length) (mi_sz h' - mi_sz h0)) s m args below meth c H1 locs1 (h.length - h0.length) (mi_sz h - mi_sz h0) (MQ below (mi_Qc D cA cs σ0 h0 s.heap.size r h') args s (h'.length - h0.length) (mi_sz h' - mi_sz h0) A) (F0 m pc' ls (st'.map (mi_v σ cs))) := by
      intro a c0 c1 pc' st' H1 locs1 hN' ha hz hP1 hD1 hS1
      subst hN'
      have q := ih pc' L st' (h.set a c1) r h' hfin hN.1 (by rw [List.length_set]; exact hlen) (by rw [mi_sz_set ha hz]; exact hsz) σ H1 locs1 ls hσ hP1 hD1 hS1 hlv
      rwa [List.length_set, mi_sz_set ha hz] at q
    have nxA : ∀ (c1 : mi_C) (pc' q : Nat) (st' : List Value) (H1 : Heap) (ms : Nat), N = .inl (pc', L, .ref h.length :: st', h ++ [c1]) → (∀ v ∈ st', mi_ok h.length v) → mi_szc c1 = ms → va_P D vwCl (mi_w cA σ cs h ++ [(q, mi_e cA (mi_up σ h.length q) cs c1)]) H1 → va_D A (mi_w cA σ cs h ++ [(q, mi_e cA (mi_up σ h.length q) cs c1)]) → va_S A s.heap H1 locs → W p l e (mi_rm (d + 1) (h'.length - h0.length) (mi_sz h' - mi_sz h0)) s m args below meth c H1 locs (h.length - h0.length + 1) (mi_sz h - mi_sz h0 + ms) (MQ below (mi_Qc D cA cs σ0 h0 s.heap.size r h') args s (h'.length - h0.length) (mi_sz h' - mi_sz h0) A) (F0 m pc' ls (.ref q :: st'.map (mi_v σ cs))) := by
      intro c1 pc' q st' H1 ms hN' hs' hz hP1 hD1 hS1
      subst hN'
      subst hz
      rw [mi_w_push hh] at hP1 hD1
      have z := ih pc' L (.ref h.length :: st') (h ++ [c1]) r h' hfin hN.1 (by rw [List.length_append]; omega) (by rw [mi_sz_push]; omega) (mi_up σ h.length q) H1 locs ls (fun k hk => by rw [mi_up_lt k (Nat.lt_of_lt_of_le hk hlen)]; exact hσ k hk) hP1 hD1 hS1 (mi_lv_up mi_up_lt hL2 hlv)
      rw [List.map_cons, List.map_congr_left (fun v hv => mi_v_congr (σ := σ) (cs := cs) mi_up_lt (hs' v hv))] at z
      have e1 : (h ++ [c1]).length - h0.length = h.length - h0.length + 1 := by rw [List.length_append, List.length_singleton]; omega
      have e2 : mi_sz (h ++ [c1]) - mi_sz h0 = mi_sz h - mi_sz h0 + mi_szc c1 := by rw [mi_sz_push]; omega
      rw [e1, e2] at z
      have e3 : mi_v (mi_up σ h.length q) cs (.ref h.length) = .ref q := by simp [mi_v, mi_up]
      rw [e3] at z
      exact z
    have room : ∀ (c1 : mi_C) (pc' : Nat) (st' : List Value), N = .inl (pc', L, st', h ++ [c1]) → h.length - h0.length + 1 ≤ (mi_rm (d + 1) (h'.length - h0.length) (mi_sz h' - mi_sz h0)).cells ∧ mi_sz h - mi_sz h0 + mi_szc c1 ≤ (mi_rm (d + 1) (h'.length - h0.length) (mi_sz h' - mi_sz h0)).slots := by
      intro c1 pc' st' hN'
      obtain ⟨q1, q2⟩ := hRok _ hN'
      dsimp only at q1 q2
      rw [List.length_append, List.length_singleton] at q1
      rw [mi_sz_push] at q2
      exact ⟨by show _ ≤ h'.length - h0.length; omega, by show _ ≤ mi_sz h' - mi_sz h0; omega⟩
    have fld : ∀ {idx ci k : Nat} {nest : Bool}, ((mi_Fl[X.2.1]?).getD []).lookup idx = some (ci, k, nest) → ∃ q, mi_V[ci]? = some q ∧ k < q.2.2.1 ∧ (nest = true → Cond.fieldLinkNest (mi_cn X.2.1) idx q.1 (q.2.1 k).2.1 (q.2.1 k).2.2.1 "LineOfKin" ∈ mi_nest) ∧ (nest = false → Cond.fieldLink (mi_cn X.2.1) idx q.1 (q.2.1 k).2.1 (q.2.1 k).2.2.1 ∈ mi_Ts) ∧ mi_okv q := by
      intro idx ci k nest hlk
      obtain ⟨q, h1, h2, h3⟩ := mi_allf X.2.1 _ (mi_lookup_mem2 hlk)
      refine ⟨q, h1, h2, fun hn => ?_, fun hn => ?_, mi_allV q (List.mem_of_getElem? h1)⟩
      · subst hn; simpa using h3
      · subst hn; simpa using h3
    have tin : ∀ {w : Cond}, w ∈ mi_Ts → w.before args s = true := fun hw => hts _ (List.mem_cons_of_mem _ hw)
    have ild : ∀ {k : Nat} {x : Int32}, L[k]? = some (some (.int x)) → ls[k]? = some (.val (.int x)) := fun q => hlv.2.2 _ _ q
    have hlen' : ls.size = X.2.2.2.1 := hlv.1.trans hL1
    have hhas := mi_lv_has hlv
    have CALL : ∀ {kd idx : Nat}, mi_inv kd X.2.1 idx pc L st h = some N → (kd = 0 → decode X.2.2.2.2.2.2.2 pc = .ok (.invokestatic idx, 3)) → (kd = 1 → decode X.2.2.2.2.2.2.2 pc = .ok (.invokevirtual idx, 3)) → (kd = 2 → decode X.2.2.2.2.2.2.2 pc = .ok (.invokespecial idx, 3)) → kd ≤ 2 → W p l e (mi_rm (d + 1) (h'.length - h0.length) (mi_sz h' - mi_sz h0)) s m args below meth c H locs (h.length - h0.length) (mi_sz h - mi_sz h0) (MQ below (mi_Qc D cA cs σ0 h0 s.heap.size r h') args s (h'.length - h0.length) (mi_sz h' - mi_sz h0) A) (F0 m pc ls (st.map (mi_v σ cs))) := by
      intro kd idx hop hd0 hd1 hd2 hkd
      rcases mi_inv_inv hop with ⟨rfl, ho, a, rr, rfl, hr4, hN'⟩ | ⟨k, nest, Y, hml2, hY, hkY, hnY, h8, hcase⟩
      · refine W.objInit hx hb hown (tin (mi_allo _ _ ho)) (tin mi_oi1) (tin mi_oi2) rfl (by rw [hml]; exact hlen') rfl (hd2 rfl) (by show 1 ≤ d + 1; omega) ?_ ?_
        · show 2 * 0 + ((rr.map (mi_v σ cs)).map fun v => v.category).sum + 12 ≤ 64 * (d + 1)
          rw [mi_catsum (fun v hv => hst v (List.mem_cons_of_mem _ hv))]
          omega
        · exact nx (pc + 3) L rr ls hN' hlv
      · have hYok : mi_okm Y := mi_all Y (List.mem_of_getElem? hY)
        obtain ⟨-, hYc, -, hYi, hYn, hYd, hY0, hY1, hY2, hYa, hYl⟩ := id hYok
        obtain ⟨Y2, hY2e, hlink⟩ := mi_alll X.2.1 _ (mi_lookup_mem2 hml2)
        have hYY : Y2 = Y := Option.some.inj (hY2e.symm.trans hY)
        subst hYY
        have hlk1 : nest = true → va_Nw (.methodLinkNest (mi_cn X.2.1) idx Y2.2.2.2.2.2.2.1 "LineOfKin") s := fun hn => hKs.1 _ (by subst hn; simpa using hlink)
        have hlk0 : nest = false → (Cond.methodLink (mi_cn X.2.1) idx Y2.2.2.2.2.2.2.1).before args s = true := fun hn => tin (by subst hn; simpa using hlink)
        -- the call, as a run of the kit, gives the rest
        have REST : ∀ (as rst : List Value), N = .inr (.inl (k, as, (pc + 3, L, rst, h))) → (∀ (mc ms : Nat) (r1 : Option Value) (h1 : mi_H), mc = h1.length - h.length → ms = mi_sz h1 - mi_sz h → h.length - h0.length + mc ≤ (mi_rm (d + 1) (h'.length - h0.length) (mi_sz h' - mi_sz h0)).cells ∧ mi_sz h - mi_sz h0 + ms ≤ (mi_rm (d + 1) (h'.length - h0.length) (mi_sz h' - mi_sz h0)).slots → Met l Y2.2.2.2.2.2.2.1 (mi_wd Y2) (mi_rm d mc ms) (mi_Pc D cA cs σ as h H.size) (mi_Qc D cA cs σ h H.size r1 h1) mc ms (va_A (mi_w cA σ cs h) H.size) → va_Run p l e (mi_rm (d + 1) (h'.length - h0.length) (mi_sz h' - mi_sz h0)) s m args below meth c H locs (h.length - h0.length) (mi_sz h - mi_sz h0) mc ms (F0 m pc ls (st.map (mi_v σ cs))) (rst.map (mi_v σ cs)) (mi_Qc D cA cs σ h H.size r1 h1 (as.map (mi_v σ cs)).toArray) (va_A (mi_w cA σ cs h) H.size)) → W p l e (mi_rm (d + 1) (h'.length - h0.length) (mi_sz h' - mi_sz h0)) s m args below meth c H locs (h.length - h0.length) (mi_sz h - mi_sz h0) (MQ below (mi_Qc D cA cs σ0 h0 s.heap.size r h') args s (h'.length - h0.length) (mi_sz h' - mi_sz h0) A) (F0 m pc ls (st.map (mi_v σ cs))) := by
          intro as rst hN' hrun
          subst hN'
          obtain ⟨⟨c1, c2, c3, c4⟩, -, has⟩ := hN
          obtain ⟨r1, h1, hcall, hrest⟩ := hfin
          dsimp only at c1 c2 c3 c4 hcall hrest
          obtain ⟨o1, o2, o3, o4⟩ := mi_Ca_ok _ _ _ _ _ _ hcall has c4
          have okF1 : mi_okF X.2.2.2.1 (pc + 3, L, r1.toList ++ rst, h1) := ⟨c1, fun v hv => mi_ok_mono o3 (c2 v hv), fun v hv => by
            rcases List.mem_append.mp hv with z | z
            · exact o2 v (by cases r1 with
                | none => cases z
                | some w => rw [List.mem_singleton.mp z])
            · exact mi_ok_mono o3 (c3 v z), o1⟩
          obtain ⟨-, -, p3, p4⟩ := mi_it_ok (mi_Ca_ok d) n _ r h' hrest okF1
          dsimp only at p3 p4
          have hroom : h.length - h0.length + (h1.length - h.length) ≤ (mi_rm (d + 1) (h'.length - h0.length) (mi_sz h' - mi_sz h0)).cells ∧ mi_sz h - mi_sz h0 + (mi_sz h1 - mi_sz h) ≤ (mi_rm (d + 1) (h'.length - h0.length) (mi_sz h' - mi_sz h0)).slots := ⟨by show _ ≤ h'.length - h0.length; omega, by show _ ≤ mi_sz h' - mi_sz h0; omega⟩
          have hFc : ∀ q, va_A (mi_w cA σ cs h) H.size q → A q := by
            intro q hq
            rcases hq with ⟨k, e, hk⟩ | hq
            · exact hD.2 k (q, e) hk
            · exact hA q (Nat.le_trans hS.1 hq)
          refine mi_callrow (hrun _ _ r1 h1 rfl rfl hroom (IH k as h r1 h1 hcall has c4 _ hY σ H.size)) hS (fun q _ hq => hFc q hq) hFc (fun σ' t H1 locs1 ht hvm hs' hP1 hK1 hD1 hz1 hk1 hS1 => ?_)
          have z := ih (pc + 3) L (r1.toList ++ rst) h1 r h' hrest okF1 (Nat.le_trans hlen o3) (Nat.le_trans hsz o4) σ' H1 locs1 ls (fun k hk => by rw [hs' k (Nat.lt_of_lt_of_le hk hlen)]; exact hσ k hk) hP1 (hD1.weaken (fun _ q _ z => hFc q.1 z)) hS1 (mi_lv_up hs' hL2 hlv)
          rw [List.map_append, List.map_congr_left (l := rst) (fun v hv => mi_v_congr (σ := σ) (cs := cs) hs' (c3 v hv))] at z
          have e1 : h1.length - h0.length = h.length - h0.length + (h1.length - h.length) := by omega
          have e2 : mi_sz h1 - mi_sz h0 = mi_sz h - mi_sz h0 + (mi_sz h1 - mi_sz h) := by omega
          rw [e1, e2] at z
          have e3 : (r1.map (mi_v σ' cs)).toList = r1.toList.map (mi_v σ' cs) := by cases r1 <;> rfl
          rw [e3]
          exact z
        have hPre : ∀ (as : List Value) (U : State), U.heap = H → s.WarmedH U.vm → mi_Pc D cA cs σ as h H.size (as.map (mi_v σ cs)).toArray U := fun as U hU hW => ⟨rfl, by rw [hU], by rw [hU]; exact hP, va_K.moved hW.alike hK, hD.weaken (fun _ _ _ _ => trivial), mi_K_call hKs hS hU hW (by
            intro q hq
            rcases hq with ⟨k, e, hk⟩ | hq
            · exact hD.2 k (q, e) hk
            · exact hA q (Nat.le_trans hS.1 hq))⟩
        have hdr : ∀ v ∈ st.drop Y2.2.2.2.2.2.1, mi_ok h.length v := fun v hv => hst v (List.mem_of_mem_drop hv)
        have hstk : st.map (mi_v σ cs) = (((st.take Y2.2.2.2.2.2.1).reverse.map (mi_v σ cs)).reverse) ++ (st.drop Y2.2.2.2.2.2.1).map (mi_v σ cs) := by
          rw [← List.map_reverse, List.reverse_reverse, ← List.map_append, List.take_append_drop]
        have hlt : ((st.take Y2.2.2.2.2.2.1).reverse.map (mi_v σ cs)).length = Y2.2.2.2.2.2.1 := by simp; omega
        have hRm : ∀ mc ms : Nat, (mi_rm d mc ms).frames + 1 ≤ (mi_rm (d + 1) (h'.length - h0.length) (mi_sz h' - mi_sz h0)).frames ∧ 8 + (Y2.2.2.2.1 + 11) + (mi_rm d mc ms).locals ≤ (mi_rm (d + 1) (h'.length - h0.length) (mi_sz h' - mi_sz h0)).locals := fun mc ms => ⟨Nat.le_refl _, by show 8 + (Y2.2.2.2.1 + 11) + 64 * d ≤ 64 * (d + 1); omega⟩
        have hfix : CallFix p m c X.2.2.2.2.2.2.2 X.2.2.2.1 s args (mi_wd X) (mi_cn X.2.1) := ⟨hx, hb, hml, hown, hts⟩
        rcases hcase with ⟨hk0, hN'⟩ | ⟨hk0, b, rr, ci, fs, q, hdrop, hbat, hq, hqn, hN'⟩
        · subst hk0
          refine REST _ _ hN' (fun mc ms r1 h1 hmc hms hroom hM => ?_)
          have h8' : 2 * (F0 m pc ls (st.map (mi_v σ cs))).monitorRoom + (((st.drop Y2.2.2.2.2.2.1).map (mi_v σ cs)).map fun v => v.category).sum ≤ 8 := lv_room (by rw [mi_catsum hdr]; exact h8)
          cases hn : nest with
          | false => exact va_runS hfix hM ⟨callB_of Y2.2.2.2.2.2.1 hts (mi_goodIn hYok) rfl rfl rfl (tin hYi) (hlk0 hn) hYd (hRm mc ms), tin (hY0 hkY)⟩ ⟨mi_Pc_blind, hPre _⟩ rfl hlt hlen' hstk h8' (hd0 rfl) hroom
          | true => exact va_runSN hfix hM ⟨va_cnB Y2.2.2.2.2.2.1 hts (mi_goodIn hYok) rfl rfl rfl (hlk1 hn) (tin hYi) hYd (hRm mc ms), tin (hY0 hkY), trivial⟩ ⟨mi_Pc_blind, hPre _⟩ rfl hlt hlen' hstk h8' (hd0 rfl) hroom
        · refine REST _ _ hN' (fun mc ms r1 h1 hmc hms hroom hM => ?_)
          rw [hdrop] at hstk
          have h8' : 2 * (F0 m pc ls (st.map (mi_v σ cs))).monitorRoom + ((rr.map (mi_v σ cs)).map fun v => v.category).sum ≤ 8 := lv_room (by
            rw [mi_catsum (fun v hv => hdr v (by rw [hdrop]; exact List.mem_cons_of_mem _ hv))]
            rw [hdrop, List.length_cons] at h8
            omega)
          have hcls : q.1 = Y2.2.2.2.2.2.2.1.cls := hqn.trans hYn.symm
          have hrecv : ∃ cell : Cell, H[σ b]? = some cell ∧ cell.vm.isStatics = false ∧ s.vm.findClass Y2.2.2.2.2.2.2.1.cls = some cell.cls := by
            rw [← hcls]
            exact va_recv hK hP (mi_V_at hq) (mi_w_at hbat)
          have hkd' : kd = 1 ∨ kd = 2 := by omega
          rcases hkd' with rfl | rfl
          · obtain ⟨hi1, hi2⟩ := hY1 hkY
            cases hn : nest with
            | false => exact va_runV hfix hM ⟨callB_of Y2.2.2.2.2.2.1 hts (mi_goodIn hYok) rfl rfl rfl (tin hYi) (hlk0 hn) hYd (hRm mc ms), tin hi1, tin hi2⟩ ⟨mi_Pc_blind, hrecv, hPre _⟩ rfl hlt hlen' hstk h8' (hd1 rfl) hroom
            | true => exact va_runVN hfix hM ⟨va_cnB Y2.2.2.2.2.2.1 hts (mi_goodIn hYok) rfl rfl rfl (hlk1 hn) (tin hYi) hYd (hRm mc ms), tin hi1, tin hi2⟩ ⟨mi_Pc_blind, hrecv, hPre _⟩ rfl hlt hlen' hstk h8' (hd1 rfl) hroom
          · obtain ⟨hi1, hi2, hi3⟩ := hY2 hkY
            have hw3 : mi_wd Y2 = Cond.code Y2.2.2.2.2.2.2.1 Y2.2.2.2.2.2.2.2 Y2.2.2.2.1 none :: mi_Ts := by unfold mi_wd; rw [hi3]
            cases hn : nest with
            | false => exact va_runI hfix hM ⟨callB_of Y2.2.2.2.2.2.1 hts (mi_goodIn hYok) hw3 rfl rfl (tin hYi) (hlk0 hn) hYd (hRm mc ms), hi2, tin hi1⟩ ⟨mi_Pc_blind, hPre _⟩ rfl hlt hlen' hstk h8' (hd2 rfl) hroom
            | true => exact va_runIN hfix hM ⟨va_cnB Y2.2.2.2.2.2.1 hts (mi_goodIn hYok) hw3 rfl rfl (hlk1 hn) (tin hYi) hYd (hRm mc ms), hi2, tin hi1⟩ ⟨mi_Pc_blind, hPre _⟩ rfl hlt hlen' hstk h8' (hd2 rfl) hroom
    unfold mi_op at hop
    split at hop
    · exact lv_iconst hx hb hdg rfl (nx _ _ _ _ (Option.some.inj hop).symm hlv)
    · exact lv_bipush hx hb hdg rfl (nx _ _ _ _ (Option.some.inj hop).symm hlv)
    · exact lv_sipush hx hb hdg rfl (nx _ _ _ _ (Option.some.inj hop).symm hlv)
    · exact lv_null hx hb hdg (nx _ _ _ _ (Option.some.inj hop).symm hlv)
    · obtain ⟨x, hx1, hN'⟩ := mi_iload_inv hop
      exact lv_iload hx hb hdg (ild hx1) (nx _ _ _ _ hN' hlv)
    · obtain ⟨x, hx1, hN'⟩ := mi_iload_inv hop
      exact lv_iload_n hx hb hdg rfl (ild hx1) (nx _ _ _ _ hN' hlv)
    · rcases mi_aload_inv hop with ⟨x, hx1, hN'⟩ | ⟨hx1, hN'⟩
      · exact lv_aload hx hb hdg (hlv.2.2 _ _ hx1) (nx _ _ _ _ hN' hlv)
      · exact lv_aloadN hx hb hdg (hlv.2.2 _ _ hx1) (nx _ _ _ _ hN' hlv)
    · rcases mi_aload_inv hop with ⟨x, hx1, hN'⟩ | ⟨hx1, hN'⟩
      · exact lv_aload_n hx hb hdg rfl (hlv.2.2 _ _ hx1) (nx _ _ _ _ hN' hlv)
      · exact lv_aload_nN hx hb hdg rfl (hlv.2.2 _ _ hx1) (nx _ _ _ _ hN' hlv)
    · obtain ⟨x, rr, rfl, hk, hN'⟩ := mi_istore_inv hop
      exact lv_istore hx hb hdg hhas hk rfl (fun ls' h' => nx _ _ _ _ hN' (mi_lv_st (v := .int x) hL2 h' hk))
    · obtain ⟨x, rr, rfl, hk, hN'⟩ := mi_istore_inv hop
      exact lv_istore_n hx hb hdg rfl hhas hk rfl (fun ls' h' => nx _ _ _ _ hN' (mi_lv_st (v := .int x) hL2 h' hk))
    · obtain ⟨hk, ⟨x, rr, rfl, hN'⟩ | ⟨rr, rfl, hN'⟩⟩ := mi_astore_inv hop
      · exact lv_astore hx hb hdg hhas hk rfl (fun ls' h' => nx _ _ _ _ hN' (mi_lv_st (v := .ref x) hL2 h' hk))
      · exact lv_astoreN hx hb hdg hhas hk rfl (fun ls' h' => nx _ _ _ _ hN' (mi_lv_st (v := .null) hL2 h' hk))
    · obtain ⟨hk, ⟨x, rr, rfl, hN'⟩ | ⟨rr, rfl, hN'⟩⟩ := mi_astore_inv hop
      · exact lv_astore_n hx hb hdg rfl hhas hk rfl (fun ls' h' => nx _ _ _ _ hN' (mi_lv_st (v := .ref x) hL2 h' hk))
      · exact lv_astore_nN hx hb hdg rfl hhas hk rfl (fun ls' h' => nx _ _ _ _ hN' (mi_lv_st (v := .null) hL2 h' hk))
    · obtain ⟨x, hx1, hN'⟩ := mi_iinc_inv hop
      obtain ⟨j, hj⟩ := List.getElem?_of_mem ((mi_ll_mem (σ := σ) (cs := cs)).mpr ⟨.int x, hx1, rfl⟩)
      have hk := (List.getElem?_eq_some_iff.mp hx1).1
      exact lv_iinc hx hb hdg hhas hj rfl hk rfl (fun ls' h' => nx _ _ _ _ hN' (mi_lv_st (v := .int _) hL2 h' hk))
    · obtain ⟨x, y, rr, rfl, hN'⟩ := mi_bin_inv hop
      exact lv_iadd hx hb hdg (nx _ _ _ _ hN' hlv)
    · obtain ⟨x, y, rr, rfl, hN'⟩ := mi_bin_inv hop
      exact lv_isub hx hb hdg (nx _ _ _ _ hN' hlv)
    · obtain ⟨x, y, rr, rfl, hN'⟩ := mi_bin_inv hop
      exact lv_imul hx hb hdg (nx _ _ _ _ hN' hlv)
    · obtain ⟨x, y, rr, rfl, hN'⟩ := mi_bin_inv hop
      exact lv_iand hx hb hdg (nx _ _ _ _ hN' hlv)
    · obtain ⟨x, y, rr, rfl, hN'⟩ := mi_bin_inv hop
      exact lv_ior hx hb hdg (nx _ _ _ _ hN' hlv)
    · obtain ⟨x, y, rr, rfl, hN'⟩ := mi_bin_inv hop
      exact lv_ixor hx hb hdg (nx _ _ _ _ hN' hlv)
    · obtain ⟨x, y, rr, rfl, hN'⟩ := mi_bin_inv hop
      exact lv_ishl hx hb hdg (nx _ _ _ _ hN' hlv)
    · obtain ⟨x, y, rr, rfl, hN'⟩ := mi_bin_inv hop
      exact lv_ishr hx hb hdg (nx _ _ _ _ hN' hlv)
    · obtain ⟨x, y, rr, rfl, hN'⟩ := mi_bin_inv hop
      exact lv_iushr hx hb hdg rfl (nx _ _ _ _ hN' hlv)
    · obtain ⟨x, y, rr, rfl, hne, hN'⟩ := mi_div_inv hop
      exact lv_idiv hx hb hdg hne (nx _ _ _ _ hN' hlv)
    · obtain ⟨x, y, rr, rfl, hne, hN'⟩ := mi_div_inv hop
      exact lv_irem hx hb hdg hne (nx _ _ _ _ hN' hlv)
    · split at hop
      · exact lv_ineg hx hb hdg (nx _ _ _ _ (Option.some.inj hop).symm hlv)
      · cases hop
    · split at hop
      · split at hop
        · exact lv_dup hx hb hdg (mi_cat (hst _ List.mem_cons_self)) (nx _ _ _ _ (Option.some.inj hop).symm hlv)
        · cases hop
      · cases hop
    · split at hop
      · split at hop
        · exact lv_dup2_11 hx hb hdg (mi_cat (hst _ List.mem_cons_self)) (mi_cat (hst _ (List.mem_cons_of_mem _ List.mem_cons_self))) (nx _ _ _ _ (Option.some.inj hop).symm hlv)
        · cases hop
      · cases hop
    · split at hop
      · split at hop
        · exact lv_pop hx hb hdg (mi_cat (hst _ List.mem_cons_self)) (nx _ _ _ _ (Option.some.inj hop).symm hlv)
        · cases hop
      · cases hop
    · obtain ⟨t, ht, hN'⟩ := mi_goto_inv hop
      exact lv_goto hx hb hdg ht (nx _ _ _ _ hN' hlv)
    · obtain ⟨x, rr, rfl, ⟨hh1, t, ht, hN'⟩ | ⟨hh1, hN'⟩⟩ := mi_if1_inv hop
      · exact mi_if1_row hx hb hdg ht hh1 (nx _ _ _ _ hN' hlv)
      · exact mi_if1_not hx hb hdg hh1 (nx _ _ _ _ hN' hlv)
    · obtain ⟨x, y, rr, rfl, ⟨hh1, t, ht, hN'⟩ | ⟨hh1, hN'⟩⟩ := mi_if2_inv hop
      · exact mi_if2_row hx hb hdg ht hh1 (nx _ _ _ _ hN' hlv)
      · exact mi_if2_not hx hb hdg hh1 (nx _ _ _ _ hN' hlv)
    · rcases mi_ifnT_inv hop with ⟨rr, rfl, t, ht, hN'⟩ | ⟨x, rr, rfl, hN'⟩
      · exact lv_ifnullN hx hb hdg ht (nx _ _ _ _ hN' hlv)
      · exact lv_ifnull hx hb hdg (nx _ _ _ _ hN' hlv)
    · rcases mi_ifnF_inv hop with ⟨x, rr, rfl, t, ht, hN'⟩ | ⟨rr, rfl, hN'⟩
      · exact lv_ifnonnull hx hb hdg ht (nx _ _ _ _ hN' hlv)
      · exact lv_ifnonnullN hx hb hdg (nx _ _ _ _ hN' hlv)
    · obtain ⟨x, rr, rfl, ⟨hh1, t, ht, hN'⟩ | ⟨hh1, off, ho, t, ht, hN'⟩⟩ := mi_tsw_inv hop
      · exact lv_tableOut hx hb hdg hh1 ht (nx _ _ _ _ hN' hlv)
      · exact lv_tableIn hx hb hdg (fun z => hh1 (Or.inl z)) (fun z => hh1 (Or.inr z)) ho ht (nx _ _ _ _ hN' hlv)
    · obtain ⟨x, rr, rfl, hp1, t, ht, hN'⟩ := mi_lsw_inv hop
      exact lv_lookup hx hb hdg hp1 rfl ht (nx _ _ _ _ hN' hlv)
    · -- getfield
      obtain ⟨a, rr, ci, k, nest, fs, v, rfl, hlk, ha, hv, hN'⟩ := mi_get_inv hop
      obtain ⟨q, hq, hk, hq1, hq2, hv1, hv2, hv3, hv4⟩ := fld hlk
      have hvv : (fs.map (mi_v σ cs))[k]? = some (mi_v σ cs v) := by rw [List.getElem?_map, hv]; rfl
      have hnext := nx _ _ _ _ hN' hlv
      cases hn : nest with
      | false => exact va_get hx hb hts (fun w hw => List.mem_cons_of_mem _ (hv1 w hw)) hown hK hP a (mi_w_at ha) (mi_V_at hq) k hk (tin (hq2 hn)) (fun x hx => by rw [hv4 k hk] at hx; exact hx) hvv hdg hnext
      | true => exact va_getN hx hb hts (fun w hw => List.mem_cons_of_mem _ (hv1 w hw)) hown hK hP a (mi_w_at ha) (mi_V_at hq) k hk (va_Nw.use rfl (hKs.1 _ (hq1 hn))) (fun x hx => by rw [hv4 k hk] at hx; exact hx) hvv hdg hnext
    · -- putfield
      obtain ⟨v, a, rr, ci, k, nest, fs, rfl, hlk, ha, hkl, hmay, hN'⟩ := mi_put_inv hop
      obtain ⟨q, hq, hk, hq1, hq2, hv1, hv2, hv3, hv4⟩ := fld hlk
      have hset : ∀ {H1 : Heap}, va_P D vwCl ((mi_w cA σ cs h).set a (σ a, .inr (ci, (fs.map (mi_v σ cs)).set k (mi_v σ cs v)))) H1 → va_P D vwCl (mi_w cA σ cs (h.set a (.inl (ci, fs.set k v)))) H1 := by
        intro H1 z
        rw [← mi_w_set]
        show va_P D vwCl ((mi_w cA σ cs h).set a (σ a, .inr (ci, (fs.set k v).map (mi_v σ cs)))) H1
        rw [List.map_set]
        exact z
      have hsetD : va_D A ((mi_w cA σ cs h).set a (σ a, .inr (ci, (fs.map (mi_v σ cs)).set k (mi_v σ cs v)))) → va_D A (mi_w cA σ cs (h.set a (.inl (ci, fs.set k v)))) := by
        intro z
        rw [← mi_w_set]
        show va_D A ((mi_w cA σ cs h).set a (σ a, .inr (ci, (fs.set k v).map (mi_v σ cs))))
        rw [List.map_set]
        exact z
      have hsz1 : mi_szc (.inl (ci, fs.set k v)) = mi_szc (.inl (ci, fs)) := by simp [mi_szc]
      have hnext : ∀ (H1 : Heap) (locs1 : List Loc), va_P D vwCl ((mi_w cA σ cs h).set a (σ a, .inr (ci, (fs.map (mi_v σ cs)).set k (mi_v σ cs v)))) H1 → va_D A ((mi_w cA σ cs h).set a (σ a, .inr (ci, (fs.map (mi_v σ cs)).set k (mi_v σ cs v)))) → va_S A s.heap H1 locs1 → _ := fun H1 locs1 z1 z2 z3 => nxS a _ _ _ _ H1 locs1 hN' ha hsz1 (hset z1) (hsetD z2) z3
      have hl2 : k < (fs.map (mi_v σ cs)).length := by rw [List.length_map]; exact hkl
      unfold mi_may at hmay
      rw [hq] at hmay
      simp only [Bool.and_eq_true, Bool.or_eq_true, beq_iff_eq, decide_eq_true_eq] at hmay
      obtain ⟨hfit, hfin2⟩ := hmay
      obtain ⟨hf1, hf2⟩ := mi_fit_ok (σ := σ) (cs := cs) hfit
      rcases hfin2 with hfin2 | ⟨⟨hkd2, hn⟩, hcq⟩
      · cases hn : nest with
        | false => exact va_put hx hb hts (fun w hw => List.mem_cons_of_mem _ (hv1 w hw)) q.2.2.2 hv2 hv3 hown hK hP hD hS a (mi_w_at ha) (mi_V_at hq) k hk (tin (hq2 hn)) (fun x hx => by rw [hv4 k hk] at hx; exact hx) hfin2 (hv2 k hk) hf1 hf2 hl2 hdg hnext
        | true => exact va_putN hx hb hts (fun w hw => List.mem_cons_of_mem _ (hv1 w hw)) q.2.2.2 hv2 hv3 hown hK hP hD hS a (mi_w_at ha) (mi_V_at hq) k hk (va_Nw.use rfl (hKs.1 _ (hq1 hn))) (fun x hx => by rw [hv4 k hk] at hx; exact hx) hfin2 (hv2 k hk) hf1 hf2 hl2 hdg hnext
      · cases hfq : (q.2.1 k).2.2.2 with
        | true => exact va_putF hx hb hts (fun w hw => List.mem_cons_of_mem _ (hv1 w hw)) q.2.2.2 hv2 hv3 hown hK hP hD hS a (mi_w_at ha) (mi_V_at hq) k hk (tin (hq2 hn)) (fun x hx => by rw [hv4 k hk] at hx; exact hx) hfq (hnm hkd2) ((hv4 k hk).trans hcq) (hv2 k hk) hf1 hf2 hl2 hdg hnext
        | false => exact va_put hx hb hts (fun w hw => List.mem_cons_of_mem _ (hv1 w hw)) q.2.2.2 hv2 hv3 hown hK hP hD hS a (mi_w_at ha) (mi_V_at hq) k hk (tin (hq2 hn)) (fun x hx => by rw [hv4 k hk] at hx; exact hx) hfq (hv2 k hk) hf1 hf2 hl2 hdg hnext
    · -- getstatic
      obtain ⟨j, hlk, hN'⟩ := mi_gets_inv hop
      obtain ⟨q, hq, hw⟩ := mi_alls X.2.1 _ (mi_lookup_mem2 hlk)
      exact va_gets hx hb (hKs.2.2 _ q hq).1 hS hown (tin hw) (fun x hx => hx) hdg (nx _ _ _ _ hN' hlv)
    · -- new
      obtain ⟨ci, q, hlk, hq, hN'⟩ := mi_new_inv hop
      obtain ⟨q', hq', hw1, hw2, hw3⟩ := mi_alln X.2.1 _ (mi_lookup_mem2 hlk)
      have e1 : q' = q := Option.some.inj (hq'.symm.trans hq)
      subst e1
      obtain ⟨hv1, hv2, hv3, hv4⟩ := mi_allV q' (List.mem_of_getElem? hq)
      obtain ⟨rm1, rm2⟩ := room _ _ _ hN'
      have hzc : mi_szc (.inl (ci, (List.range q'.2.2.1).map (fun k => defaultValue (q'.2.2.2 k)))) = q'.2.2.1 := by simp [mi_szc]
      rw [hzc] at rm2
      have hdef : ∀ ty, mi_v (mi_up σ h.length 0) cs (defaultValue ty) = defaultValue ty := by intro ty; cases ty <;> rfl
      refine va_new (fs := ((List.range q'.2.2.1).map (fun k => defaultValue (q'.2.2.2 k)))) hx hb hts (fun w hw => List.mem_cons_of_mem _ (hv1 w hw)) q'.2.2.2 hv2 hown (tin hw1) (tin hw2) (tin hw3) hK hP hD hS hA (mi_V_at hq) ?_ rm1 rm2 hdg (fun q2 H1 hP1 hD1 hS1 => ?_)
      · intro j hj
        simp [vp_V, List.getD_eq_getElem?_getD, hj]
      · have e2 : mi_e cA (mi_up σ h.length q2) cs (.inl (ci, (List.range q'.2.2.1).map (fun k => defaultValue (q'.2.2.2 k)))) = .inr (ci, (List.range q'.2.2.1).map (fun k => defaultValue (q'.2.2.2 k))) := by
          show Sum.inr (ci, List.map (mi_v (mi_up σ h.length q2) cs) _) = _
          rw [List.map_map]
          congr 2
          apply List.map_congr_left
          intro k hk
          show mi_v _ _ (defaultValue _) = defaultValue _
          cases q'.2.2.2 k <;> rfl
        exact nxA _ _ q2 _ H1 _ hN' hst hzc (by rw [e2]; exact hP1) (by rw [e2]; exact hD1) hS1
    · -- newarray int
      obtain ⟨n1, rr, rfl, hn0, hnb, hN'⟩ := mi_newa_inv hop
      obtain ⟨rm1, rm2⟩ := room _ _ _ hN'
      have hzc : mi_szc (.inr (0, .inl (List.replicate n1.toNatClampNeg 0))) = n1.toNatClampNeg := by simp [mi_szc]
      rw [hzc] at rm2
      refine va_newa (atype := .int) (ty := .int) (a0 := (n1.toNatClampNeg, .inl (fun _ => 0))) hx hb (tin mi_acI) rfl hK hP hD hS hA (fun _ => rfl) hn0 rfl (by show n1.toNatClampNeg * 4 ≤ 536870912; omega) rm1 rm2 hdg (fun q2 c2 H1 hK1 hP1 hD1 hS1 => ?_)
      have e0 := mi_arr_eq (t0 := 0) hK rfl hK1
      subst e0
      have e2 : mi_e cA (mi_up σ h.length q2) cs (.inr (0, .inl (List.replicate n1.toNatClampNeg 0))) = .inl (cA 0, n1.toNatClampNeg, .inl (fun _ => 0)) := by
        show Sum.inl (cA 0, (List.replicate n1.toNatClampNeg (0 : Int32)).length, Sum.inl (fun j => (List.replicate n1.toNatClampNeg (0 : Int32)).getD j 0)) = _
        rw [mi_fun_new, List.length_replicate]
      exact nxA _ _ q2 _ H1 _ hN' (fun v hv => hst v (List.mem_cons_of_mem _ hv)) hzc (by rw [e2]; exact hP1) (by rw [e2]; exact hD1) hS1
    · -- newarray boolean
      obtain ⟨n1, rr, rfl, hn0, hnb, hN'⟩ := mi_newa_inv hop
      obtain ⟨rm1, rm2⟩ := room _ _ _ hN'
      have hzc : mi_szc (.inr (1, .inl (List.replicate n1.toNatClampNeg 0))) = n1.toNatClampNeg := by simp [mi_szc]
      rw [hzc] at rm2
      refine va_newa (atype := .boolean) (ty := .boolean) (a0 := (n1.toNatClampNeg, .inl (fun _ => 0))) hx hb (tin mi_acZ) rfl hK hP hD hS hA (fun _ => rfl) hn0 rfl (by show n1.toNatClampNeg * 1 ≤ 536870912; omega) rm1 rm2 hdg (fun q2 c2 H1 hK1 hP1 hD1 hS1 => ?_)
      have e0 := mi_arr_eq (t0 := 1) hK rfl hK1
      subst e0
      have e2 : mi_e cA (mi_up σ h.length q2) cs (.inr (1, .inl (List.replicate n1.toNatClampNeg 0))) = .inl (cA 1, n1.toNatClampNeg, .inl (fun _ => 0)) := by
        show Sum.inl (cA 1, (List.replicate n1.toNatClampNeg (0 : Int32)).length, Sum.inl (fun j => (List.replicate n1.toNatClampNeg (0 : Int32)).getD j 0)) = _
        rw [mi_fun_new, List.length_replicate]
      exact nxA _ _ q2 _ H1 _ hN' (fun v hv => hst v (List.mem_cons_of_mem _ hv)) hzc (by rw [e2]; exact hP1) (by rw [e2]; exact hD1) hS1
    · -- anewarray
      obtain ⟨n1, rr, rfl, hn0, hnb, hlk, hN'⟩ := mi_newq_inv hop
      obtain ⟨q', hq', hw1, hw2, hw3⟩ := mi_alln X.2.1 _ (mi_lookup_mem2 hlk)
      have e1 : q' = (RX1, TX1, 12, tyX1) := (Option.some.inj hq').symm
      subst e1
      obtain ⟨rm1, rm2⟩ := room _ _ _ hN'
      have hzc : mi_szc (.inr (2, .inr (List.replicate n1.toNatClampNeg none))) = n1.toNatClampNeg := by simp [mi_szc]
      rw [hzc] at rm2
      refine va_newq (C := RX1) hx hb hown (tin hw1) hKs.2.1 hK hP hD hS hA hn0 rfl (by omega) rm1 rm2 hdg (fun q2 c2 H1 hK1 hP1 hD1 hS1 => ?_)
      have e0 := mi_arr_eq (t0 := 2) hK rfl hK1
      subst e0
      have e2 : mi_e cA (mi_up σ h.length q2) cs (.inr (2, .inr (List.replicate n1.toNatClampNeg none))) = .inl (cA 2, n1.toNatClampNeg, .inr (.inr (.inr (.inr (fun _ => none))))) := by
        show Sum.inl (cA 2, (List.replicate n1.toNatClampNeg (none : Option Nat)).length, Sum.inr (Sum.inr (Sum.inr (Sum.inr (fun j => ((List.replicate n1.toNatClampNeg (none : Option Nat)).getD j none).map (mi_up σ h.length q2)))))) = _
        rw [mi_fun_newq, List.length_replicate]
      exact nxA _ _ q2 _ H1 _ hN' (fun v hv => hst v (List.mem_cons_of_mem _ hv)) hzc (by rw [e2]; exact hP1) (by rw [e2]; exact hD1) hS1
    · -- arraylength
      obtain ⟨a, rr, xs, rfl, ha, hN'⟩ := mi_alen_inv hop
      exact va_alen hx hb hK hP a 0 (mi_w_at ha) rfl rfl hdg (nx _ _ _ _ hN' hlv)
    · -- iaload
      rcases mi_iald_inv hop with ⟨i, a, rr, xs, x, rfl, ha, hi0, hxi, hN'⟩ | ⟨i, j, rr, q, x, rfl, hq, hi0, hxi, hN'⟩
      · have hil := (List.getElem?_eq_some_iff.mp hxi).1
        have hin : vp_in i xs.length := fun z => by rcases z with z | z; exact hi0 z; omega
        have hnext := nx _ _ _ _ hN' hlv
        have e1 : xs.getD i.toNatClampNeg 0 = x := by rw [List.getD_eq_getElem?_getD, hxi]; rfl
        refine va_iald hx hb hK hP a 0 (mi_w_at ha) rfl hin hdg ?_
        show W p l e _ s m args below meth c H locs _ _ _ (F0 m (pc + 1) ls (.int (xs.getD i.toNatClampNeg 0) :: _))
        rw [e1]
        exact hnext
      · have hil := (List.getElem?_eq_some_iff.mp hxi).1
        have hin : vp_in i q.2.length := fun z => by rcases z with z | z; exact hi0 z; omega
        refine va_ti (v := .int x) hx hb (hKs.2.2 _ q hq).2 hS hin ?_ hdg (nx _ _ _ _ hN' hlv)
        rw [List.getD_eq_getElem?_getD, hxi]; rfl
    · -- iastore
      obtain ⟨x, i, a, rr, xs, rfl, ha, hin, hN'⟩ := mi_iast_inv hop
      have hil : i.toNatClampNeg < xs.length := Nat.not_le.mp fun z => hin (Or.inr z)
      have e1 : (mi_w cA σ cs h).set a (σ a, .inl (cA 0, xs.length, .inl (upd (fun j => xs.getD j 0) i.toNatClampNeg x))) = mi_w cA σ cs (h.set a (.inr (0, .inl (xs.set i.toNatClampNeg x)))) := by
        rw [← mi_w_set, mi_fun_set hil]
        show _ = (mi_w cA σ cs h).set a (σ a, .inl (cA 0, (xs.set i.toNatClampNeg x).length, .inl (fun j => (xs.set i.toNatClampNeg x).getD j 0)))
        rw [List.length_set]
      exact va_iast hx hb hK hP hD hS a 0 (mi_w_at ha) rfl hin hdg (fun H1 locs1 z1 z2 z3 => nxS a _ _ _ _ H1 locs1 hN' ha (by simp [mi_szc]) (e1 ▸ z1) (e1 ▸ z2) z3)
    · -- baload
      obtain ⟨i, a, rr, xs, x, rfl, ha, hi0, hxi, hN'⟩ := mi_bald_inv hop
      have hil := (List.getElem?_eq_some_iff.mp hxi).1
      have hin : vp_in i xs.length := fun z => by rcases z with z | z; exact hi0 z; omega
      have hnext := nx _ _ _ _ hN' hlv
      have e1 : xs.getD i.toNatClampNeg 0 = x := by rw [List.getD_eq_getElem?_getD, hxi]; rfl
      refine va_zald hx hb hK hP a 1 (mi_w_at ha) rfl hin hdg ?_
      show W p l e _ s m args below meth c H locs _ _ _ (F0 m (pc + 1) ls (.int (xs.getD i.toNatClampNeg 0) :: _))
      rw [e1]
      exact hnext
    · -- bastore
      obtain ⟨x, i, a, rr, xs, rfl, ha, hin, hN'⟩ := mi_bast_inv hop
      have hil : i.toNatClampNeg < xs.length := Nat.not_le.mp fun z => hin (Or.inr z)
      have e1 : (mi_w cA σ cs h).set a (σ a, .inl (cA 1, xs.length, .inl (upd (fun j => xs.getD j 0) i.toNatClampNeg (vp_nar .boolean x)))) = mi_w cA σ cs (h.set a (.inr (1, .inl (xs.set i.toNatClampNeg (x &&& 1))))) := by
        rw [← mi_w_set, mi_fun_set hil]
        show _ = (mi_w cA σ cs h).set a (σ a, .inl (cA 1, (xs.set i.toNatClampNeg (x &&& 1)).length, .inl (fun j => (xs.set i.toNatClampNeg (x &&& 1)).getD j 0)))
        rw [List.length_set]
        rfl
      exact va_zast hx hb hK hP hD hS a 1 (mi_w_at ha) rfl hin hdg (fun H1 locs1 z1 z2 z3 => nxS a _ _ _ _ H1 locs1 hN' ha (by simp [mi_szc]) (e1 ▸ z1) (e1 ▸ z2) z3)
    · -- aaload
      obtain ⟨i, a, rr, xs, rfl, ha, hi0, hcs⟩ := mi_aald_inv hop
      have hin : i.toNatClampNeg < xs.length := by
        rcases hcs with ⟨x, hxi, -⟩ | ⟨hxi, -⟩ <;> exact (List.getElem?_eq_some_iff.mp hxi).1
      have hin' : vp_in i xs.length := fun z => by rcases z with z | z; exact hi0 z; omega
      refine va_aldq (C := RX1) hx hb hK hP a 2 (mi_w_at ha) rfl hin' hdg ?_
      show W p l e _ s m args below meth c H locs _ _ _ (F0 m (pc + 1) ls (va_rf ((xs.getD i.toNatClampNeg none).map σ) :: _))
      rcases hcs with ⟨x, hxi, hN'⟩ | ⟨hxi, hN'⟩
      · have hnext := nx _ _ _ _ hN' hlv
        rw [List.getD_eq_getElem?_getD, hxi]
        exact hnext
      · have hnext := nx _ _ _ _ hN' hlv
        rw [List.getD_eq_getElem?_getD, hxi]
        exact hnext
    · -- aastore
      obtain ⟨v, i, a, rr, xs, fs, rfl, ha, hin, hvv, hN'⟩ := mi_aast_inv hop
      have hil : i.toNatClampNeg < xs.length := Nat.not_le.mp fun z => hin (Or.inr z)
      have e1 : (mi_w cA σ cs h).set a (σ a, .inl (cA 2, xs.length, .inr (.inr (.inr (.inr (va_up (fun j => (xs.getD j none).map σ) i.toNatClampNeg (some (σ v)))))))) = mi_w cA σ cs (h.set a (.inr (2, .inr (xs.set i.toNatClampNeg (some v))))) := by
        rw [← mi_w_set, mi_fun_setq hil]
        show _ = (mi_w cA σ cs h).set a (σ a, .inl (cA 2, (xs.set i.toNatClampNeg (some v)).length, .inr (.inr (.inr (.inr (fun j => ((xs.set i.toNatClampNeg (some v)).getD j none).map σ))))))
        rw [List.length_set]
      exact va_astq (r := (RX1, TX1, 12)) hx hb hK hP hD hS a 2 v 1 (mi_w_at ha) rfl (mi_w_at hvv) rfl hin hdg (fun H1 locs1 z1 z2 z3 => nxS a _ _ _ _ H1 locs1 hN' ha (by simp [mi_szc]) (e1 ▸ z1) (e1 ▸ z2) z3)
    · exact CALL hop (fun _ => hdg) (fun z => absurd z (by decide)) (fun z => absurd z (by decide)) (by decide)
    · exact CALL hop (fun z => absurd z (by decide)) (fun _ => hdg) (fun z => absurd z (by decide)) (by decide)
    · exact CALL hop (fun z => absurd z (by decide)) (fun z => absurd z (by decide)) (fun _ => hdg) (by decide)
    · obtain ⟨ty, v, hrt, rfl, hnar, hN'⟩ := mi_ret_inv hop
      subst hN'
      obtain ⟨rfl, rfl⟩ := hfin
      exact W.zret hx hb (hr.trans hrt) hnar (fun t ht hW => ⟨⟨σ, hσ, rfl, by rw [ht]; exact hP, va_K.moved hW.alike hK, by rw [hAe]; exact hD⟩, by rw [hAe]; exact hS.F ht⟩) hS.2.2 hdg hlocks
    · obtain ⟨C, v, hrt, rfl, hvv, hN'⟩ := mi_aret_inv hop
      subst hN'
      obtain ⟨rfl, rfl⟩ := hfin
      refine W.aret (v := mi_v σ cs v) hx hb (hr.trans hrt) (Or.inl ⟨_, rfl⟩) ?_ (fun t ht hW => ⟨⟨σ, hσ, rfl, by rw [ht]; exact hP, va_K.moved hW.alike hK, by rw [hAe]; exact hD⟩, by rw [hAe]; exact hS.F ht⟩) hS.2.2 hdg hlocks
      rcases hvv with rfl | ⟨a, rfl⟩
      · exact Or.inl rfl
      · exact Or.inr ⟨_, rfl⟩
    · obtain ⟨hrt, rfl, hN'⟩ := mi_vret_inv hop
      subst hN'
      obtain ⟨rfl, rfl⟩ := hfin
      exact W.vret hx hb (hr.trans hrt) (fun t ht hW => ⟨⟨σ, hσ, rfl, by rw [ht]; exact hP, va_K.moved hW.alike hK, by rw [hAe]; exact hD⟩, by rw [hAe]; exact hS.F ht⟩) hS.2.2 hdg hlocks
    · cases hop
/-- what is true of a run is true of the method -/
theorem mi_sound {l : Launch} {D : va_G} {cA : Nat → ClassId} {cs : Nat → Nat} : ∀ d : Nat, mi_IH l D cA cs d := by
  intro d
  induction d with
  | zero => intro k as h r h' q; exact absurd q id
  | succ d IH =>
    intro k as h r h' q has hh X hX σ sz
    obtain ⟨X', n, hX', hl, hit⟩ := q
    have e1 : X' = X := Option.some.inj (hX'.symm.trans hX)
    subst e1
    have hXok := mi_all X' (List.mem_of_getElem? hX)
    refine Met.ofW (cc := X'.2.2.2.2.2.2.2) (maxL := X'.2.2.2.1) (ret := X'.2.2.1) hXok.2.2.1 rfl ?_
    intro p e s m args below meth c s₁ B hml hv
    obtain ⟨rfl, hsz, hP, hK, hD0, hKs⟩ := hv
    have hts := atoms_spec (ws := mi_wd X') B.pre
    have hown : s.vm.findClass X'.2.2.2.2.2.2.1.cls = some m.cls := findClass_of_methodNamed B.named
    have hin : meth.name = X'.2.2.2.2.2.2.1.name := (name_of_methodNamed B.named B.method).1
    subst hsz
    have hD := hD0.self (sz := s.heap.size)
    have hC : mi_Cx p s m (as.map (mi_v σ cs)).toArray meth c X' D cA cs (va_A (mi_w cA σ cs h) s.heap.size) := ⟨B.exec, B.bytes, hml, B.returns, hts, by rw [← hXok.2.2.2.2.1]; exact hown, B.notSynchronized, fun hk => hin.trans (hXok.2.2.2.2.2.2.2.2.1 hk).2.1, hK, hKs⟩
    have hok := mi_okF_en hl has hh
    have hnc : ∀ v ∈ as.map (mi_v σ cs), v.category = 1 := by
      intro v hv
      obtain ⟨w, hw, rfl⟩ := List.mem_map.mp hv
      exact mi_cat (has w hw)
    rw [entry_eq m _ hnc]
    have hw := mi_walk (e := e) (below := below) IH hXok rfl hC n 0 (mi_en X' as h).2.1 [] h r h' hit hok (Nat.le_refl _) (Nat.le_refl _) σ s.heap [] (((as.map (mi_v σ cs)).map Slot.val ++ List.replicate (X'.2.2.2.1 - (as.map (mi_v σ cs)).length) Slot.unset).toArray) (fun _ _ => rfl) hP hD va_S.rf ?_
    · rw [Nat.sub_self, Nat.sub_self] at hw
      exact hw
    · refine ⟨?_, ?_, ?_⟩
      · simp [mi_en]
      · refine ⟨fun i v hi hc => ?_, fun i hi => ?_⟩
        · rw [List.getElem?_toArray] at hi
          rcases List.mem_append.mp (List.mem_of_getElem? hi) with z | z
          · obtain ⟨w, hw, hz⟩ := List.mem_map.mp z
            cases hz
            rw [hnc _ hw] at hc
            cases hc
          · have := List.eq_of_mem_replicate z
            cases this
        · rw [List.getElem?_toArray] at hi
          rcases List.mem_append.mp (List.mem_of_getElem? hi) with z | z
          · obtain ⟨w, hw, hz⟩ := List.mem_map.mp z
            cases hz
          · have := List.eq_of_mem_replicate z
            cases this
      · intro i v hi
        rw [List.getElem?_toArray]
        have hi : (as.map some ++ List.replicate (X'.2.2.2.1 - as.length) none)[i]? = some (some v) := hi
        by_cases hl2 : i < as.length
        · rw [List.getElem?_append_left (by simpa using hl2)] at hi ⊢
          rw [List.getElem?_map] at hi
          rw [List.getElem?_map, List.getElem?_map]
          cases ha : as[i]? with
          | none => rw [ha] at hi; cases hi
          | some w => rw [ha] at hi; cases hi; rfl
        · rw [List.getElem?_append_right (by simp; omega)] at hi
          exact absurd (List.eq_of_mem_replicate (List.mem_of_getElem? hi)) (by simp)
end
