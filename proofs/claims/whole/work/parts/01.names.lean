-- ===== PART A: goes FIRST, ahead of the names: the tables' words, and 'selects' of the private methods out of them =====
/-- a private method of a class that the tables say can be made, by its rows of tables_1 -/
def lw_okq (q : MethodName × Nat) : Prop := (q.1.cls ≠ "java/lang/invoke/MethodHandle" ∧ q.1.cls ≠ "java/lang/invoke/VarHandle") ∧ Cond.instantiable q.1.cls q.2 ∈ tables_1 ∧ Cond.privateMethod q.1 ∈ tables_1 ∧ Cond.instanceMethod q.1 ∈ tables_1
theorem lw_p0 : lw_okq (⟨"LineOfKin", "find", "(I)LLineOfKin$Device;"⟩, 8) := ⟨⟨by decide +kernel, by decide +kernel⟩, List.mem_of_getElem? (i := 8) (by decide +kernel), List.mem_of_getElem? (i := 166) (by decide +kernel), List.mem_of_getElem? (i := 167) (by decide +kernel)⟩
theorem lw_p1 : lw_okq (⟨"LineOfKin$Device", "bears", "(I)Z"⟩, 12) := ⟨⟨by decide +kernel, by decide +kernel⟩, List.mem_of_getElem? (i := 100) (by decide +kernel), List.mem_of_getElem? (i := 175) (by decide +kernel), List.mem_of_getElem? (i := 176) (by decide +kernel)⟩
theorem lw_p2 : lw_okq (⟨"LineOfKin$Device", "hasAct", "(II)Z"⟩, 12) := ⟨⟨by decide +kernel, by decide +kernel⟩, List.mem_of_getElem? (i := 100) (by decide +kernel), List.mem_of_getElem? (i := 180) (by decide +kernel), List.mem_of_getElem? (i := 181) (by decide +kernel)⟩
theorem lw_p3 : lw_okq (⟨"LineOfKin$Bodies", "forgetChain", "()V"⟩, 3) := ⟨⟨by decide +kernel, by decide +kernel⟩, List.mem_of_getElem? (i := 16) (by decide +kernel), List.mem_of_getElem? (i := 185) (by decide +kernel), List.mem_of_getElem? (i := 186) (by decide +kernel)⟩
theorem lw_p4 : lw_okq (⟨"LineOfKin$Bodies", "answer", "(LLineOfKin$Device;III)I"⟩, 3) := ⟨⟨by decide +kernel, by decide +kernel⟩, List.mem_of_getElem? (i := 16) (by decide +kernel), List.mem_of_getElem? (i := 189) (by decide +kernel), List.mem_of_getElem? (i := 190) (by decide +kernel)⟩
theorem lw_p5 : lw_okq (⟨"LineOfKin$Bodies", "selected", "(II)I"⟩, 3) := ⟨⟨by decide +kernel, by decide +kernel⟩, List.mem_of_getElem? (i := 16) (by decide +kernel), List.mem_of_getElem? (i := 193) (by decide +kernel), List.mem_of_getElem? (i := 194) (by decide +kernel)⟩
theorem lw_p6 : lw_okq (⟨"LineOfKin$Bodies", "run", "(LLineOfKin$Device;III)I"⟩, 3) := ⟨⟨by decide +kernel, by decide +kernel⟩, List.mem_of_getElem? (i := 16) (by decide +kernel), List.mem_of_getElem? (i := 197) (by decide +kernel), List.mem_of_getElem? (i := 198) (by decide +kernel)⟩
theorem lw_p7 : lw_okq (⟨"LineOfKin$Bodies", "begin", "(I)V"⟩, 3) := ⟨⟨by decide +kernel, by decide +kernel⟩, List.mem_of_getElem? (i := 16) (by decide +kernel), List.mem_of_getElem? (i := 201) (by decide +kernel), List.mem_of_getElem? (i := 202) (by decide +kernel)⟩
theorem lw_p8 : lw_okq (⟨"LineOfKin$Bodies", "runOfInterface", "(LLineOfKin$Device;III)I"⟩, 3) := ⟨⟨by decide +kernel, by decide +kernel⟩, List.mem_of_getElem? (i := 16) (by decide +kernel), List.mem_of_getElem? (i := 205) (by decide +kernel), List.mem_of_getElem? (i := 206) (by decide +kernel)⟩
theorem lw_p9 : lw_okq (⟨"LineOfKin$Bodies", "by", "(ILLineOfKin$Device;III)I"⟩, 3) := ⟨⟨by decide +kernel, by decide +kernel⟩, List.mem_of_getElem? (i := 16) (by decide +kernel), List.mem_of_getElem? (i := 210) (by decide +kernel), List.mem_of_getElem? (i := 211) (by decide +kernel)⟩
theorem lw_p10 : lw_okq (⟨"LineOfKin$Bodies", "runOfRootOrUnit", "(LLineOfKin$Device;III)I"⟩, 3) := ⟨⟨by decide +kernel, by decide +kernel⟩, List.mem_of_getElem? (i := 16) (by decide +kernel), List.mem_of_getElem? (i := 214) (by decide +kernel), List.mem_of_getElem? (i := 215) (by decide +kernel)⟩
theorem lw_p11 : lw_okq (⟨"LineOfKin$Bodies", "runOfPumpToFine", "(LLineOfKin$Device;III)I"⟩, 3) := ⟨⟨by decide +kernel, by decide +kernel⟩, List.mem_of_getElem? (i := 16) (by decide +kernel), List.mem_of_getElem? (i := 218) (by decide +kernel), List.mem_of_getElem? (i := 219) (by decide +kernel)⟩
theorem lw_p12 : lw_okq (⟨"LineOfKin$Bodies", "above", "(ILLineOfKin$Device;III)I"⟩, 3) := ⟨⟨by decide +kernel, by decide +kernel⟩, List.mem_of_getElem? (i := 16) (by decide +kernel), List.mem_of_getElem? (i := 222) (by decide +kernel), List.mem_of_getElem? (i := 223) (by decide +kernel)⟩
theorem lw_p13 : lw_okq (⟨"LineOfKin$Bodies", "runOfRelayToMute", "(LLineOfKin$Device;III)I"⟩, 3) := ⟨⟨by decide +kernel, by decide +kernel⟩, List.mem_of_getElem? (i := 16) (by decide +kernel), List.mem_of_getElem? (i := 227) (by decide +kernel), List.mem_of_getElem? (i := 228) (by decide +kernel)⟩
theorem lw_p14 : lw_okq (⟨"LineOfKin$Bodies", "runOfBoostToLedger", "(LLineOfKin$Device;III)I"⟩, 3) := ⟨⟨by decide +kernel, by decide +kernel⟩, List.mem_of_getElem? (i := 16) (by decide +kernel), List.mem_of_getElem? (i := 231) (by decide +kernel), List.mem_of_getElem? (i := 232) (by decide +kernel)⟩
theorem lw_p15 : lw_okq (⟨"LineOfKin", "answerToByte", "(LLineOfKin$Device;II)I"⟩, 8) := ⟨⟨by decide +kernel, by decide +kernel⟩, List.mem_of_getElem? (i := 8) (by decide +kernel), List.mem_of_getElem? (i := 248) (by decide +kernel), List.mem_of_getElem? (i := 249) (by decide +kernel)⟩
def lw_privs_1 : List (MethodName × Nat) := [(⟨"LineOfKin", "find", "(I)LLineOfKin$Device;"⟩, 8), (⟨"LineOfKin$Device", "bears", "(I)Z"⟩, 12), (⟨"LineOfKin$Device", "hasAct", "(II)Z"⟩, 12), (⟨"LineOfKin$Bodies", "forgetChain", "()V"⟩, 3), (⟨"LineOfKin$Bodies", "answer", "(LLineOfKin$Device;III)I"⟩, 3), (⟨"LineOfKin$Bodies", "selected", "(II)I"⟩, 3), (⟨"LineOfKin$Bodies", "run", "(LLineOfKin$Device;III)I"⟩, 3), (⟨"LineOfKin$Bodies", "begin", "(I)V"⟩, 3), (⟨"LineOfKin$Bodies", "runOfInterface", "(LLineOfKin$Device;III)I"⟩, 3), (⟨"LineOfKin$Bodies", "by", "(ILLineOfKin$Device;III)I"⟩, 3), (⟨"LineOfKin$Bodies", "runOfRootOrUnit", "(LLineOfKin$Device;III)I"⟩, 3), (⟨"LineOfKin$Bodies", "runOfPumpToFine", "(LLineOfKin$Device;III)I"⟩, 3), (⟨"LineOfKin$Bodies", "above", "(ILLineOfKin$Device;III)I"⟩, 3), (⟨"LineOfKin$Bodies", "runOfRelayToMute", "(LLineOfKin$Device;III)I"⟩, 3), (⟨"LineOfKin$Bodies", "runOfBoostToLedger", "(LLineOfKin$Device;III)I"⟩, 3), (⟨"LineOfKin", "answerToByte", "(LLineOfKin$Device;II)I"⟩, 8)]
theorem lw_r1 : ∀ q ∈ lw_privs_1, lw_okq q := List.forall_mem_cons.mpr ⟨lw_p0, List.forall_mem_cons.mpr ⟨lw_p1, List.forall_mem_cons.mpr ⟨lw_p2, List.forall_mem_cons.mpr ⟨lw_p3, List.forall_mem_cons.mpr ⟨lw_p4, List.forall_mem_cons.mpr ⟨lw_p5, List.forall_mem_cons.mpr ⟨lw_p6, List.forall_mem_cons.mpr ⟨lw_p7, List.forall_mem_cons.mpr ⟨lw_p8, List.forall_mem_cons.mpr ⟨lw_p9, List.forall_mem_cons.mpr ⟨lw_p10, List.forall_mem_cons.mpr ⟨lw_p11, List.forall_mem_cons.mpr ⟨lw_p12, List.forall_mem_cons.mpr ⟨lw_p13, List.forall_mem_cons.mpr ⟨lw_p14, List.forall_mem_cons.mpr ⟨lw_p15, fun _ h => absurd h List.not_mem_nil⟩⟩⟩⟩⟩⟩⟩⟩⟩⟩⟩⟩⟩⟩⟩⟩
theorem lw_p16 : lw_okq (⟨"LineOfKin$Device", "addLinkTo", "(LLineOfKin$Device;)V"⟩, 12) := ⟨⟨by decide +kernel, by decide +kernel⟩, List.mem_of_getElem? (i := 100) (by decide +kernel), List.mem_of_getElem? (i := 256) (by decide +kernel), List.mem_of_getElem? (i := 257) (by decide +kernel)⟩
theorem lw_p17 : lw_okq (⟨"LineOfKin", "letTake", "(LLineOfKin$Device;I)V"⟩, 8) := ⟨⟨by decide +kernel, by decide +kernel⟩, List.mem_of_getElem? (i := 8) (by decide +kernel), List.mem_of_getElem? (i := 279) (by decide +kernel), List.mem_of_getElem? (i := 280) (by decide +kernel)⟩
theorem lw_p18 : lw_okq (⟨"LineOfKin$Device", "actOfTaking", "()I"⟩, 12) := ⟨⟨by decide +kernel, by decide +kernel⟩, List.mem_of_getElem? (i := 100) (by decide +kernel), List.mem_of_getElem? (i := 283) (by decide +kernel), List.mem_of_getElem? (i := 284) (by decide +kernel)⟩
theorem lw_p19 : lw_okq (⟨"LineOfKin", "handOn", "(LLineOfKin$Device;)V"⟩, 8) := ⟨⟨by decide +kernel, by decide +kernel⟩, List.mem_of_getElem? (i := 8) (by decide +kernel), List.mem_of_getElem? (i := 288) (by decide +kernel), List.mem_of_getElem? (i := 289) (by decide +kernel)⟩
theorem lw_p20 : lw_okq (⟨"LineOfKin$Bodies", "keptAt", "(I)I"⟩, 3) := ⟨⟨by decide +kernel, by decide +kernel⟩, List.mem_of_getElem? (i := 16) (by decide +kernel), List.mem_of_getElem? (i := 300) (by decide +kernel), List.mem_of_getElem? (i := 301) (by decide +kernel)⟩
theorem lw_p21 : lw_okq (⟨"LineOfKin$Device", "property", "(I)I"⟩, 12) := ⟨⟨by decide +kernel, by decide +kernel⟩, List.mem_of_getElem? (i := 100) (by decide +kernel), List.mem_of_getElem? (i := 315) (by decide +kernel), List.mem_of_getElem? (i := 316) (by decide +kernel)⟩
theorem lw_p22 : lw_okq (⟨"LineOfKin", "countBearersOf", "(I)I"⟩, 8) := ⟨⟨by decide +kernel, by decide +kernel⟩, List.mem_of_getElem? (i := 8) (by decide +kernel), List.mem_of_getElem? (i := 323) (by decide +kernel), List.mem_of_getElem? (i := 324) (by decide +kernel)⟩
theorem lw_p23 : lw_okq (⟨"LineOfKinModel", "have", "(III)V"⟩, 28) := ⟨⟨by decide +kernel, by decide +kernel⟩, List.mem_of_getElem? (i := 331) (by decide +kernel), List.mem_of_getElem? (i := 337) (by decide +kernel), List.mem_of_getElem? (i := 338) (by decide +kernel)⟩
theorem lw_p24 : lw_okq (⟨"LineOfKinModel", "heir", "(III)V"⟩, 28) := ⟨⟨by decide +kernel, by decide +kernel⟩, List.mem_of_getElem? (i := 331) (by decide +kernel), List.mem_of_getElem? (i := 341) (by decide +kernel), List.mem_of_getElem? (i := 342) (by decide +kernel)⟩
theorem lw_p25 : lw_okq (⟨"LineOfKinModel", "lowest", "(II)I"⟩, 28) := ⟨⟨by decide +kernel, by decide +kernel⟩, List.mem_of_getElem? (i := 331) (by decide +kernel), List.mem_of_getElem? (i := 351) (by decide +kernel), List.mem_of_getElem? (i := 352) (by decide +kernel)⟩
theorem lw_p26 : lw_okq (⟨"LineOfKinModel", "select", "(II)I"⟩, 28) := ⟨⟨by decide +kernel, by decide +kernel⟩, List.mem_of_getElem? (i := 331) (by decide +kernel), List.mem_of_getElem? (i := 355) (by decide +kernel), List.mem_of_getElem? (i := 356) (by decide +kernel)⟩
theorem lw_p27 : lw_okq (⟨"LineOfKinModel", "why", "(III)I"⟩, 28) := ⟨⟨by decide +kernel, by decide +kernel⟩, List.mem_of_getElem? (i := 331) (by decide +kernel), List.mem_of_getElem? (i := 453) (by decide +kernel), List.mem_of_getElem? (i := 454) (by decide +kernel)⟩
theorem lw_p28 : lw_okq (⟨"LineOfKinModel", "isDevice", "(I)Z"⟩, 28) := ⟨⟨by decide +kernel, by decide +kernel⟩, List.mem_of_getElem? (i := 331) (by decide +kernel), List.mem_of_getElem? (i := 457) (by decide +kernel), List.mem_of_getElem? (i := 458) (by decide +kernel)⟩
theorem lw_p29 : lw_okq (⟨"LineOfKinModel", "isAble", "(II)Z"⟩, 28) := ⟨⟨by decide +kernel, by decide +kernel⟩, List.mem_of_getElem? (i := 331) (by decide +kernel), List.mem_of_getElem? (i := 467) (by decide +kernel), List.mem_of_getElem? (i := 468) (by decide +kernel)⟩
theorem lw_p30 : lw_okq (⟨"LineOfKinModel", "isOf", "(III)Z"⟩, 28) := ⟨⟨by decide +kernel, by decide +kernel⟩, List.mem_of_getElem? (i := 331) (by decide +kernel), List.mem_of_getElem? (i := 471) (by decide +kernel), List.mem_of_getElem? (i := 472) (by decide +kernel)⟩
theorem lw_p31 : lw_okq (⟨"LineOfKinModel", "refused", "(I)I"⟩, 28) := ⟨⟨by decide +kernel, by decide +kernel⟩, List.mem_of_getElem? (i := 331) (by decide +kernel), List.mem_of_getElem? (i := 475) (by decide +kernel), List.mem_of_getElem? (i := 476) (by decide +kernel)⟩
def lw_privs_2 : List (MethodName × Nat) := [(⟨"LineOfKin$Device", "addLinkTo", "(LLineOfKin$Device;)V"⟩, 12), (⟨"LineOfKin", "letTake", "(LLineOfKin$Device;I)V"⟩, 8), (⟨"LineOfKin$Device", "actOfTaking", "()I"⟩, 12), (⟨"LineOfKin", "handOn", "(LLineOfKin$Device;)V"⟩, 8), (⟨"LineOfKin$Bodies", "keptAt", "(I)I"⟩, 3), (⟨"LineOfKin$Device", "property", "(I)I"⟩, 12), (⟨"LineOfKin", "countBearersOf", "(I)I"⟩, 8), (⟨"LineOfKinModel", "have", "(III)V"⟩, 28), (⟨"LineOfKinModel", "heir", "(III)V"⟩, 28), (⟨"LineOfKinModel", "lowest", "(II)I"⟩, 28), (⟨"LineOfKinModel", "select", "(II)I"⟩, 28), (⟨"LineOfKinModel", "why", "(III)I"⟩, 28), (⟨"LineOfKinModel", "isDevice", "(I)Z"⟩, 28), (⟨"LineOfKinModel", "isAble", "(II)Z"⟩, 28), (⟨"LineOfKinModel", "isOf", "(III)Z"⟩, 28), (⟨"LineOfKinModel", "refused", "(I)I"⟩, 28)]
theorem lw_r2 : ∀ q ∈ lw_privs_2, lw_okq q := List.forall_mem_cons.mpr ⟨lw_p16, List.forall_mem_cons.mpr ⟨lw_p17, List.forall_mem_cons.mpr ⟨lw_p18, List.forall_mem_cons.mpr ⟨lw_p19, List.forall_mem_cons.mpr ⟨lw_p20, List.forall_mem_cons.mpr ⟨lw_p21, List.forall_mem_cons.mpr ⟨lw_p22, List.forall_mem_cons.mpr ⟨lw_p23, List.forall_mem_cons.mpr ⟨lw_p24, List.forall_mem_cons.mpr ⟨lw_p25, List.forall_mem_cons.mpr ⟨lw_p26, List.forall_mem_cons.mpr ⟨lw_p27, List.forall_mem_cons.mpr ⟨lw_p28, List.forall_mem_cons.mpr ⟨lw_p29, List.forall_mem_cons.mpr ⟨lw_p30, List.forall_mem_cons.mpr ⟨lw_p31, fun _ h => absurd h List.not_mem_nil⟩⟩⟩⟩⟩⟩⟩⟩⟩⟩⟩⟩⟩⟩⟩⟩
theorem lw_p32 : lw_okq (⟨"LineOfKinModel", "begin", "()V"⟩, 28) := ⟨⟨by decide +kernel, by decide +kernel⟩, List.mem_of_getElem? (i := 331) (by decide +kernel), List.mem_of_getElem? (i := 479) (by decide +kernel), List.mem_of_getElem? (i := 480) (by decide +kernel)⟩
theorem lw_p33 : lw_okq (⟨"LineOfKinModel", "act", "(III)I"⟩, 28) := ⟨⟨by decide +kernel, by decide +kernel⟩, List.mem_of_getElem? (i := 331) (by decide +kernel), List.mem_of_getElem? (i := 483) (by decide +kernel), List.mem_of_getElem? (i := 484) (by decide +kernel)⟩
theorem lw_p34 : lw_okq (⟨"LineOfKinModel", "enter", "(II)V"⟩, 28) := ⟨⟨by decide +kernel, by decide +kernel⟩, List.mem_of_getElem? (i := 331) (by decide +kernel), List.mem_of_getElem? (i := 487) (by decide +kernel), List.mem_of_getElem? (i := 488) (by decide +kernel)⟩
theorem lw_p35 : lw_okq (⟨"LineOfKinModel", "pop", "()I"⟩, 28) := ⟨⟨by decide +kernel, by decide +kernel⟩, List.mem_of_getElem? (i := 331) (by decide +kernel), List.mem_of_getElem? (i := 491) (by decide +kernel), List.mem_of_getElem? (i := 492) (by decide +kernel)⟩
theorem lw_p36 : lw_okq (⟨"LineOfKinModel", "step", "(III)V"⟩, 28) := ⟨⟨by decide +kernel, by decide +kernel⟩, List.mem_of_getElem? (i := 331) (by decide +kernel), List.mem_of_getElem? (i := 495) (by decide +kernel), List.mem_of_getElem? (i := 496) (by decide +kernel)⟩
theorem lw_p37 : lw_okq (⟨"LineOfKinModel", "push", "(I)V"⟩, 28) := ⟨⟨by decide +kernel, by decide +kernel⟩, List.mem_of_getElem? (i := 331) (by decide +kernel), List.mem_of_getElem? (i := 499) (by decide +kernel), List.mem_of_getElem? (i := 500) (by decide +kernel)⟩
theorem lw_p38 : lw_okq (⟨"LineOfKinModel", "takes", "(II)I"⟩, 28) := ⟨⟨by decide +kernel, by decide +kernel⟩, List.mem_of_getElem? (i := 331) (by decide +kernel), List.mem_of_getElem? (i := 519) (by decide +kernel), List.mem_of_getElem? (i := 520) (by decide +kernel)⟩
def lw_privs_3 : List (MethodName × Nat) := [(⟨"LineOfKinModel", "begin", "()V"⟩, 28), (⟨"LineOfKinModel", "act", "(III)I"⟩, 28), (⟨"LineOfKinModel", "enter", "(II)V"⟩, 28), (⟨"LineOfKinModel", "pop", "()I"⟩, 28), (⟨"LineOfKinModel", "step", "(III)V"⟩, 28), (⟨"LineOfKinModel", "push", "(I)V"⟩, 28), (⟨"LineOfKinModel", "takes", "(II)I"⟩, 28)]
theorem lw_r3 : ∀ q ∈ lw_privs_3, lw_okq q := List.forall_mem_cons.mpr ⟨lw_p32, List.forall_mem_cons.mpr ⟨lw_p33, List.forall_mem_cons.mpr ⟨lw_p34, List.forall_mem_cons.mpr ⟨lw_p35, List.forall_mem_cons.mpr ⟨lw_p36, List.forall_mem_cons.mpr ⟨lw_p37, List.forall_mem_cons.mpr ⟨lw_p38, fun _ h => absurd h List.not_mem_nil⟩⟩⟩⟩⟩⟩⟩
def lw_privs : List (MethodName × Nat) := lw_privs_1 ++ (lw_privs_2 ++ (lw_privs_3))
def lw_tbl : List Cond := k2_sels lw_privs ++ tables_1
theorem lw_privs_ok : ∀ q ∈ lw_privs, lw_okq q := by
  show ∀ q ∈ lw_privs_1 ++ (lw_privs_2 ++ (lw_privs_3)), lw_okq q
  exact List.forall_mem_append.mpr ⟨lw_r1, List.forall_mem_append.mpr ⟨lw_r2, lw_r3⟩⟩
-- ===== end of PART A =====
/-! ===== BEGIN printed: names, fields, word lists, decode rows ===== -/
def RX0 : String := "LineOfKin$Bodies"
def TX0 : u_T := fun k => match k with
  | 0 => ("LineOfKin$Bodies", "kept", "[I", true)
  | 1 => ("LineOfKin$Bodies", "selections", "[I", true)
  | _ => ("LineOfKin$Bodies", "begun", "I", false)
def tyX0 : Nat → FieldType := fun k => match k with
  | 0 => .array .int
  | 1 => .array .int
  | _ => .int
abbrev wsX00 : List Cond := u_ws RX0 TX0 3
theorem nmX0 : ∀ a, a < 3 → ∀ b, b < 3 → a ≠ b → (TX0 a).2.1 ≠ (TX0 b).2.1 := by decide +kernel
theorem tyX0_ok : ∀ k, k < 3 → parseFieldDescriptor (TX0 k).2.2.1 = some (tyX0 k) := by decide +kernel
abbrev cX0_init : ByteArray := prog_2_method_1_code
def yX0_init : MethodName := ⟨RX0, "<init>", "()V"⟩
abbrev cX0_forgetChain : ByteArray := prog_2_method_2_code
def yX0_forgetChain : MethodName := ⟨RX0, "forgetChain", "()V"⟩
abbrev cX0_keptAt : ByteArray := prog_2_method_3_code
def yX0_keptAt : MethodName := ⟨RX0, "keptAt", "(I)I"⟩
abbrev cX0_selected : ByteArray := prog_2_method_4_code
def yX0_selected : MethodName := ⟨RX0, "selected", "(II)I"⟩
abbrev cX0_answer : ByteArray := prog_2_method_5_code
def yX0_answer : MethodName := ⟨RX0, "answer", "(LLineOfKin$Device;III)I"⟩
abbrev cX0_above : ByteArray := prog_2_method_6_code
def yX0_above : MethodName := ⟨RX0, "above", "(ILLineOfKin$Device;III)I"⟩
abbrev cX0_by : ByteArray := prog_2_method_7_code
def yX0_by : MethodName := ⟨RX0, "by", "(ILLineOfKin$Device;III)I"⟩
abbrev cX0_run : ByteArray := prog_2_method_8_code
def yX0_run : MethodName := ⟨RX0, "run", "(LLineOfKin$Device;III)I"⟩
abbrev cX0_begin : ByteArray := prog_2_method_9_code
def yX0_begin : MethodName := ⟨RX0, "begin", "(I)V"⟩
abbrev cX0_runOfInterface : ByteArray := prog_2_method_10_code
def yX0_runOfInterface : MethodName := ⟨RX0, "runOfInterface", "(LLineOfKin$Device;III)I"⟩
abbrev cX0_runOfRootOrUnit : ByteArray := prog_2_method_11_code
def yX0_runOfRootOrUnit : MethodName := ⟨RX0, "runOfRootOrUnit", "(LLineOfKin$Device;III)I"⟩
abbrev cX0_runOfPumpToFine : ByteArray := prog_2_method_12_code
def yX0_runOfPumpToFine : MethodName := ⟨RX0, "runOfPumpToFine", "(LLineOfKin$Device;III)I"⟩
abbrev cX0_runOfRelayToMute : ByteArray := prog_2_method_13_code
def yX0_runOfRelayToMute : MethodName := ⟨RX0, "runOfRelayToMute", "(LLineOfKin$Device;III)I"⟩
abbrev cX0_runOfBoostToLedger : ByteArray := prog_2_method_14_code
def yX0_runOfBoostToLedger : MethodName := ⟨RX0, "runOfBoostToLedger", "(LLineOfKin$Device;III)I"⟩
def RX1 : String := "LineOfKin$Device"
def TX1 : u_T := fun k => match k with
  | 0 => ("LineOfKin$Device", "kind", "I", true)
  | 1 => ("LineOfKin$Device", "ways", "I", true)
  | 2 => ("LineOfKin$Device", "actsOfKind", "I", true)
  | 3 => ("LineOfKin$Device", "v", "I", false)
  | 4 => ("LineOfKin$Device", "c", "I", false)
  | 5 => ("LineOfKin$Device", "outgoing", "I", false)
  | 6 => ("LineOfKin$Device", "incoming", "I", false)
  | 7 => ("LineOfKin$Device", "taken", "I", false)
  | 8 => ("LineOfKin$Device", "pulse", "I", false)
  | 9 => ("LineOfKin$Device", "answered", "I", false)
  | 10 => ("LineOfKin$Device", "firstLink", "LLineOfKin$Link;", false)
  | _ => ("LineOfKin$Device", "lastLink", "LLineOfKin$Link;", false)
def tyX1 : Nat → FieldType := fun k => match k with
  | 0 => .int
  | 1 => .int
  | 2 => .int
  | 3 => .int
  | 4 => .int
  | 5 => .int
  | 6 => .int
  | 7 => .int
  | 8 => .int
  | 9 => .int
  | 10 => .object "LineOfKin$Link"
  | _ => .object "LineOfKin$Link"
abbrev wsX10 : List Cond := u_ws RX1 TX1 12
theorem nmX1 : ∀ a, a < 12 → ∀ b, b < 12 → a ≠ b → (TX1 a).2.1 ≠ (TX1 b).2.1 := by decide +kernel
theorem tyX1_ok : ∀ k, k < 12 → parseFieldDescriptor (TX1 k).2.2.1 = some (tyX1 k) := by decide +kernel
abbrev cX1_init : ByteArray := prog_3_method_1_code
def yX1_init : MethodName := ⟨RX1, "<init>", "(II)V"⟩
abbrev cX1_bears : ByteArray := prog_3_method_2_code
def yX1_bears : MethodName := ⟨RX1, "bears", "(I)Z"⟩
abbrev cX1_hasAct : ByteArray := prog_3_method_3_code
def yX1_hasAct : MethodName := ⟨RX1, "hasAct", "(II)Z"⟩
abbrev cX1_actOfTaking : ByteArray := prog_3_method_4_code
def yX1_actOfTaking : MethodName := ⟨RX1, "actOfTaking", "()I"⟩
abbrev cX1_addLinkTo : ByteArray := prog_3_method_5_code
def yX1_addLinkTo : MethodName := ⟨RX1, "addLinkTo", "(LLineOfKin$Device;)V"⟩
abbrev cX1_isProperty : ByteArray := prog_3_method_6_code
def yX1_isProperty : MethodName := ⟨RX1, "isProperty", "(I)Z"⟩
abbrev cX1_property : ByteArray := prog_3_method_7_code
def yX1_property : MethodName := ⟨RX1, "property", "(I)I"⟩
def RX2 : String := "LineOfKin$Kin"
def TX2 : u_T := fun k => match k with
  | _ => ("", "", "", false)
def tyX2 : Nat → FieldType := fun k => match k with
  | _ => .int
abbrev wsX20 : List Cond := u_ws RX2 TX2 0
theorem nmX2 : ∀ a, a < 0 → ∀ b, b < 0 → a ≠ b → (TX2 a).2.1 ≠ (TX2 b).2.1 := by decide +kernel
theorem tyX2_ok : ∀ k, k < 0 → parseFieldDescriptor (TX2 k).2.2.1 = some (tyX2 k) := by decide +kernel
abbrev cX2_isKind : ByteArray := prog_4_method_2_code
def yX2_isKind : MethodName := ⟨RX2, "isKind", "(I)Z"⟩
abbrev cX2_isAct : ByteArray := prog_4_method_3_code
def yX2_isAct : MethodName := ⟨RX2, "isAct", "(I)Z"⟩
abbrev cX2_isWay : ByteArray := prog_4_method_4_code
def yX2_isWay : MethodName := ⟨RX2, "isWay", "(I)Z"⟩
abbrev cX2_isType : ByteArray := prog_4_method_5_code
def yX2_isType : MethodName := ⟨RX2, "isType", "(I)Z"⟩
abbrev cX2_contains : ByteArray := prog_4_method_6_code
def yX2_contains : MethodName := ⟨RX2, "contains", "(II)Z"⟩
abbrev cX2_parentOf : ByteArray := prog_4_method_7_code
def yX2_parentOf : MethodName := ⟨RX2, "parentOf", "(I)I"⟩
abbrev cX2_namedBy : ByteArray := prog_4_method_8_code
def yX2_namedBy : MethodName := ⟨RX2, "namedBy", "(I)I"⟩
abbrev cX2_actsOfWay : ByteArray := prog_4_method_9_code
def yX2_actsOfWay : MethodName := ⟨RX2, "actsOfWay", "(I)I"⟩
abbrev cX2_bodyOf : ByteArray := prog_4_method_10_code
def yX2_bodyOf : MethodName := ⟨RX2, "bodyOf", "(II)I"⟩
abbrev cX2_faceOfWay : ByteArray := prog_4_method_11_code
def yX2_faceOfWay : MethodName := ⟨RX2, "faceOfWay", "(I)I"⟩
abbrev cX2_facesOf : ByteArray := prog_4_method_12_code
def yX2_facesOf : MethodName := ⟨RX2, "facesOf", "(I)I"⟩
abbrev cX2_waysOf : ByteArray := prog_4_method_13_code
def yX2_waysOf : MethodName := ⟨RX2, "waysOf", "(I)I"⟩
abbrev cX2_actsOfWays : ByteArray := prog_4_method_14_code
def yX2_actsOfWays : MethodName := ⟨RX2, "actsOfWays", "(I)I"⟩
abbrev cX2_selected : ByteArray := prog_4_method_15_code
def yX2_selected : MethodName := ⟨RX2, "selected", "(II)I"⟩
def RX3 : String := "LineOfKin$Link"
def TX3 : u_T := fun k => match k with
  | 0 => ("LineOfKin$Link", "to", "LLineOfKin$Device;", true)
  | _ => ("LineOfKin$Link", "next", "LLineOfKin$Link;", false)
def tyX3 : Nat → FieldType := fun k => match k with
  | 0 => .object "LineOfKin$Device"
  | _ => .object "LineOfKin$Link"
abbrev wsX30 : List Cond := u_ws RX3 TX3 2
theorem nmX3 : ∀ a, a < 2 → ∀ b, b < 2 → a ≠ b → (TX3 a).2.1 ≠ (TX3 b).2.1 := by decide +kernel
theorem tyX3_ok : ∀ k, k < 2 → parseFieldDescriptor (TX3 k).2.2.1 = some (tyX3 k) := by decide +kernel
abbrev cX3_init : ByteArray := prog_5_method_1_code
def yX3_init : MethodName := ⟨RX3, "<init>", "(LLineOfKin$Device;)V"⟩
def RX4 : String := "LineOfKin"
def TX4 : u_T := fun k => match k with
  | 0 => ("LineOfKin", "bodies", "LLineOfKin$Bodies;", true)
  | 1 => ("LineOfKin", "devices", "[LLineOfKin$Device;", true)
  | 2 => ("LineOfKin", "took", "[LLineOfKin$Device;", true)
  | 3 => ("LineOfKin", "deviceCount", "I", false)
  | 4 => ("LineOfKin", "linkCount", "I", false)
  | 5 => ("LineOfKin", "tookCount", "I", false)
  | 6 => ("LineOfKin", "pulse", "I", false)
  | _ => ("LineOfKin", "latestStatus", "I", false)
def tyX4 : Nat → FieldType := fun k => match k with
  | 0 => .object "LineOfKin$Bodies"
  | 1 => .array (.object "LineOfKin$Device")
  | 2 => .array (.object "LineOfKin$Device")
  | 3 => .int
  | 4 => .int
  | 5 => .int
  | 6 => .int
  | _ => .int
abbrev wsX40 : List Cond := u_ws RX4 TX4 8
theorem nmX4 : ∀ a, a < 8 → ∀ b, b < 8 → a ≠ b → (TX4 a).2.1 ≠ (TX4 b).2.1 := by decide +kernel
theorem tyX4_ok : ∀ k, k < 8 → parseFieldDescriptor (TX4 k).2.2.1 = some (tyX4 k) := by decide +kernel
abbrev cX4_init : ByteArray := prog_1_method_1_code
def yX4_init : MethodName := ⟨RX4, "<init>", "()V"⟩
abbrev cX4_device : ByteArray := prog_1_method_2_code
def yX4_device : MethodName := ⟨RX4, "device", "(II)I"⟩
abbrev cX4_call : ByteArray := prog_1_method_3_code
def yX4_call : MethodName := ⟨RX4, "call", "(IIII)I"⟩
abbrev cX4_every : ByteArray := prog_1_method_4_code
def yX4_every : MethodName := ⟨RX4, "every", "(III)I"⟩
abbrev cX4_feed : ByteArray := prog_1_method_5_code
def yX4_feed : MethodName := ⟨RX4, "feed", "(II)I"⟩
abbrev cX4_link : ByteArray := prog_1_method_6_code
def yX4_link : MethodName := ⟨RX4, "link", "(II)I"⟩
abbrev cX4_pass : ByteArray := prog_1_method_7_code
def yX4_pass : MethodName := ⟨RX4, "pass", "(II)I"⟩
abbrev cX4_able : ByteArray := prog_1_method_8_code
def yX4_able : MethodName := ⟨RX4, "able", "(II)I"⟩
abbrev cX4_chain : ByteArray := prog_1_method_9_code
def yX4_chain : MethodName := ⟨RX4, "chain", "(I)I"⟩
abbrev cX4_ran : ByteArray := prog_1_method_10_code
def yX4_ran : MethodName := ⟨RX4, "ran", "()I"⟩
abbrev cX4_state : ByteArray := prog_1_method_11_code
def yX4_state : MethodName := ⟨RX4, "state", "(II)I"⟩
abbrev cX4_size : ByteArray := prog_1_method_12_code
def yX4_size : MethodName := ⟨RX4, "size", "(I)I"⟩
abbrev cX4_status : ByteArray := prog_1_method_13_code
def yX4_status : MethodName := ⟨RX4, "status", "()I"⟩
abbrev cX4_find : ByteArray := prog_1_method_14_code
def yX4_find : MethodName := ⟨RX4, "find", "(I)LLineOfKin$Device;"⟩
abbrev cX4_refusal : ByteArray := prog_1_method_15_code
def yX4_refusal : MethodName := ⟨RX4, "refusal", "(LLineOfKin$Device;II)I"⟩
abbrev cX4_refusalOfEvery : ByteArray := prog_1_method_16_code
def yX4_refusalOfEvery : MethodName := ⟨RX4, "refusalOfEvery", "(II)I"⟩
abbrev cX4_answerToByte : ByteArray := prog_1_method_17_code
def yX4_answerToByte : MethodName := ⟨RX4, "answerToByte", "(LLineOfKin$Device;II)I"⟩
abbrev cX4_letTake : ByteArray := prog_1_method_18_code
def yX4_letTake : MethodName := ⟨RX4, "letTake", "(LLineOfKin$Device;I)V"⟩
abbrev cX4_handOn : ByteArray := prog_1_method_19_code
def yX4_handOn : MethodName := ⟨RX4, "handOn", "(LLineOfKin$Device;)V"⟩
abbrev cX4_countBearersOf : ByteArray := prog_1_method_20_code
def yX4_countBearersOf : MethodName := ⟨RX4, "countBearersOf", "(I)I"⟩
def RX5 : String := "LineOfKinModel"
def TX5 : u_T := fun k => match k with
  | 0 => ("LineOfKinModel", "code", "[I", true)
  | 1 => ("LineOfKinModel", "start", "[I", true)
  | 2 => ("LineOfKinModel", "parent", "[I", true)
  | 3 => ("LineOfKinModel", "bears", "[I", true)
  | 4 => ("LineOfKinModel", "has", "[I", true)
  | 5 => ("LineOfKinModel", "chosen", "[I", true)
  | 6 => ("LineOfKinModel", "actsOf", "[I", true)
  | 7 => ("LineOfKinModel", "actsOfKind", "[I", true)
  | 8 => ("LineOfKinModel", "kindOf", "[I", true)
  | 9 => ("LineOfKinModel", "valueOf", "[I", true)
  | 10 => ("LineOfKinModel", "countOf", "[I", true)
  | 11 => ("LineOfKinModel", "takenOf", "[I", true)
  | 12 => ("LineOfKinModel", "devices", "I", false)
  | 13 => ("LineOfKinModel", "from", "[I", true)
  | 14 => ("LineOfKinModel", "to", "[I", true)
  | 15 => ("LineOfKinModel", "links", "I", false)
  | 16 => ("LineOfKinModel", "row", "[I", true)
  | 17 => ("LineOfKinModel", "answer", "[I", true)
  | 18 => ("LineOfKinModel", "isIn", "[Z", true)
  | 19 => ("LineOfKinModel", "kept", "[I", true)
  | 20 => ("LineOfKinModel", "began", "I", false)
  | 21 => ("LineOfKinModel", "status", "I", false)
  | 22 => ("LineOfKinModel", "frameBody", "[I", true)
  | 23 => ("LineOfKinModel", "frameAt", "[I", true)
  | 24 => ("LineOfKinModel", "frameX", "[I", true)
  | 25 => ("LineOfKinModel", "pile", "[I", true)
  | 26 => ("LineOfKinModel", "frames", "I", false)
  | _ => ("LineOfKinModel", "piled", "I", false)
def tyX5 : Nat → FieldType := fun k => match k with
  | 0 => .array .int
  | 1 => .array .int
  | 2 => .array .int
  | 3 => .array .int
  | 4 => .array .int
  | 5 => .array .int
  | 6 => .array .int
  | 7 => .array .int
  | 8 => .array .int
  | 9 => .array .int
  | 10 => .array .int
  | 11 => .array .int
  | 12 => .int
  | 13 => .array .int
  | 14 => .array .int
  | 15 => .int
  | 16 => .array .int
  | 17 => .array .int
  | 18 => .array .boolean
  | 19 => .array .int
  | 20 => .int
  | 21 => .int
  | 22 => .array .int
  | 23 => .array .int
  | 24 => .array .int
  | 25 => .array .int
  | 26 => .int
  | _ => .int
abbrev wsX50 : List Cond := u_ws RX5 TX5 28
theorem nmX5 : ∀ a, a < 28 → ∀ b, b < 28 → a ≠ b → (TX5 a).2.1 ≠ (TX5 b).2.1 := by decide +kernel
theorem tyX5_ok : ∀ k, k < 28 → parseFieldDescriptor (TX5 k).2.2.1 = some (tyX5 k) := by decide +kernel
abbrev cX5_init : ByteArray := prog_7_method_1_code
def yX5_init : MethodName := ⟨RX5, "<init>", "()V"⟩
abbrev cX5_bit : ByteArray := prog_7_method_2_code
def yX5_bit : MethodName := ⟨RX5, "bit", "(I)I"⟩
abbrev cX5_have : ByteArray := prog_7_method_3_code
def yX5_have : MethodName := ⟨RX5, "have", "(III)V"⟩
abbrev cX5_closed : ByteArray := prog_7_method_4_code
def yX5_closed : MethodName := ⟨RX5, "closed", "(I)I"⟩
abbrev cX5_heir : ByteArray := prog_7_method_5_code
def yX5_heir : MethodName := ⟨RX5, "heir", "(III)V"⟩
abbrev cX5_select : ByteArray := prog_7_method_6_code
def yX5_select : MethodName := ⟨RX5, "select", "(II)I"⟩
abbrev cX5_lowest : ByteArray := prog_7_method_7_code
def yX5_lowest : MethodName := ⟨RX5, "lowest", "(II)I"⟩
abbrev cX5_push : ByteArray := prog_7_method_8_code
def yX5_push : MethodName := ⟨RX5, "push", "(I)V"⟩
abbrev cX5_pop : ByteArray := prog_7_method_9_code
def yX5_pop : MethodName := ⟨RX5, "pop", "()I"⟩
abbrev cX5_enter : ByteArray := prog_7_method_10_code
def yX5_enter : MethodName := ⟨RX5, "enter", "(II)V"⟩
abbrev cX5_act : ByteArray := prog_7_method_11_code
def yX5_act : MethodName := ⟨RX5, "act", "(III)I"⟩
abbrev cX5_step : ByteArray := prog_7_method_12_code
def yX5_step : MethodName := ⟨RX5, "step", "(III)V"⟩
abbrev cX5_isDevice : ByteArray := prog_7_method_13_code
def yX5_isDevice : MethodName := ⟨RX5, "isDevice", "(I)Z"⟩
abbrev cX5_isAct : ByteArray := prog_7_method_14_code
def yX5_isAct : MethodName := ⟨RX5, "isAct", "(I)Z"⟩
abbrev cX5_isWay : ByteArray := prog_7_method_15_code
def yX5_isWay : MethodName := ⟨RX5, "isWay", "(I)Z"⟩
abbrev cX5_isAble : ByteArray := prog_7_method_16_code
def yX5_isAble : MethodName := ⟨RX5, "isAble", "(II)Z"⟩
abbrev cX5_isOf : ByteArray := prog_7_method_17_code
def yX5_isOf : MethodName := ⟨RX5, "isOf", "(III)Z"⟩
abbrev cX5_refused : ByteArray := prog_7_method_18_code
def yX5_refused : MethodName := ⟨RX5, "refused", "(I)I"⟩
abbrev cX5_why : ByteArray := prog_7_method_19_code
def yX5_why : MethodName := ⟨RX5, "why", "(III)I"⟩
abbrev cX5_begin : ByteArray := prog_7_method_20_code
def yX5_begin : MethodName := ⟨RX5, "begin", "()V"⟩
abbrev cX5_device : ByteArray := prog_7_method_21_code
def yX5_device : MethodName := ⟨RX5, "device", "(II)I"⟩
abbrev cX5_call : ByteArray := prog_7_method_22_code
def yX5_call : MethodName := ⟨RX5, "call", "(IIII)I"⟩
abbrev cX5_every : ByteArray := prog_7_method_23_code
def yX5_every : MethodName := ⟨RX5, "every", "(III)I"⟩
abbrev cX5_feed : ByteArray := prog_7_method_24_code
def yX5_feed : MethodName := ⟨RX5, "feed", "(II)I"⟩
abbrev cX5_link : ByteArray := prog_7_method_25_code
def yX5_link : MethodName := ⟨RX5, "link", "(II)I"⟩
abbrev cX5_takes : ByteArray := prog_7_method_26_code
def yX5_takes : MethodName := ⟨RX5, "takes", "(II)I"⟩
abbrev cX5_pass : ByteArray := prog_7_method_27_code
def yX5_pass : MethodName := ⟨RX5, "pass", "(II)I"⟩
abbrev cX5_able : ByteArray := prog_7_method_28_code
def yX5_able : MethodName := ⟨RX5, "able", "(II)I"⟩
abbrev cX5_chain : ByteArray := prog_7_method_29_code
def yX5_chain : MethodName := ⟨RX5, "chain", "(I)I"⟩
abbrev cX5_ran : ByteArray := prog_7_method_30_code
def yX5_ran : MethodName := ⟨RX5, "ran", "()I"⟩
abbrev cX5_state : ByteArray := prog_7_method_31_code
def yX5_state : MethodName := ⟨RX5, "state", "(II)I"⟩
abbrev cX5_size : ByteArray := prog_7_method_32_code
def yX5_size : MethodName := ⟨RX5, "size", "(I)I"⟩
abbrev cX5_status : ByteArray := prog_7_method_33_code
def yX5_status : MethodName := ⟨RX5, "status", "()I"⟩
def RL : String := "LineOfKinLaw"
abbrev cL_law : ByteArray := code
def yL_law : MethodName := ⟨RL, "law", "([I)Z"⟩

abbrev vwCl : List vw_C := [(RX0, TX0, 3), (RX1, TX1, 12), (RX3, TX3, 2), (RX4, TX4, 8), (RX5, TX5, 28)]
