section
-- ===== PART A: goes FIRST, ahead of the names: the tables' words, and 'selects' of the private methods out of them =====
/-- a private method of a class that the tables say can be made, by its rows of tables_1 -/
def lw_okq (q : MethodName × Nat) : Prop := (q.1.cls ≠ "java/lang/invoke/MethodHandle" ∧ q.1.cls ≠ "java/lang/invoke/VarHandle") ∧ Cond.instantiable q.1.cls q.2 ∈ tables_1 ∧ Cond.privateMethod q.1 ∈ tables_1 ∧ Cond.instanceMethod q.1 ∈ tables_1
theorem lw_p0 : lw_okq (⟨"LowPowerCpu$Multiplier", "clear", "()V"⟩, 6) := ⟨⟨by decide +kernel, by decide +kernel⟩, List.mem_of_getElem? (i := 20) (by decide +kernel), List.mem_of_getElem? (i := 59) (by decide +kernel), List.mem_of_getElem? (i := 60) (by decide +kernel)⟩
theorem lw_p1 : lw_okq (⟨"LowPowerCpu$Memory", "wordAt", "(I)I"⟩, 2) := ⟨⟨by decide +kernel, by decide +kernel⟩, List.mem_of_getElem? (i := 14) (by decide +kernel), List.mem_of_getElem? (i := 64) (by decide +kernel), List.mem_of_getElem? (i := 65) (by decide +kernel)⟩
theorem lw_p2 : lw_okq (⟨"LowPowerCpu$Multiplier", "wordAtSlot", "(I)I"⟩, 6) := ⟨⟨by decide +kernel, by decide +kernel⟩, List.mem_of_getElem? (i := 20) (by decide +kernel), List.mem_of_getElem? (i := 75) (by decide +kernel), List.mem_of_getElem? (i := 76) (by decide +kernel)⟩
theorem lw_p3 : lw_okq (⟨"LowPowerCpu", "setRegister", "(II)V"⟩, 4) := ⟨⟨by decide +kernel, by decide +kernel⟩, List.mem_of_getElem? (i := 6) (by decide +kernel), List.mem_of_getElem? (i := 83) (by decide +kernel), List.mem_of_getElem? (i := 84) (by decide +kernel)⟩
theorem lw_p4 : lw_okq (⟨"LowPowerCpu$Memory", "placeByte", "(II)V"⟩, 2) := ⟨⟨by decide +kernel, by decide +kernel⟩, List.mem_of_getElem? (i := 14) (by decide +kernel), List.mem_of_getElem? (i := 108) (by decide +kernel), List.mem_of_getElem? (i := 109) (by decide +kernel)⟩
theorem lw_p5 : lw_okq (⟨"LowPowerCpu$Multiplier", "placeWordAtSlot", "(II)V"⟩, 6) := ⟨⟨by decide +kernel, by decide +kernel⟩, List.mem_of_getElem? (i := 20) (by decide +kernel), List.mem_of_getElem? (i := 114) (by decide +kernel), List.mem_of_getElem? (i := 115) (by decide +kernel)⟩
theorem lw_p6 : lw_okq (⟨"LowPowerCpu$Memory", "placeWord", "(II)V"⟩, 2) := ⟨⟨by decide +kernel, by decide +kernel⟩, List.mem_of_getElem? (i := 14) (by decide +kernel), List.mem_of_getElem? (i := 118) (by decide +kernel), List.mem_of_getElem? (i := 119) (by decide +kernel)⟩
theorem lw_p7 : lw_okq (⟨"LowPowerCpu$Memory", "byteAt", "(I)I"⟩, 2) := ⟨⟨by decide +kernel, by decide +kernel⟩, List.mem_of_getElem? (i := 14) (by decide +kernel), List.mem_of_getElem? (i := 128) (by decide +kernel), List.mem_of_getElem? (i := 129) (by decide +kernel)⟩
theorem lw_p8 : lw_okq (⟨"LowPowerCpu", "interrupt", "()V"⟩, 4) := ⟨⟨by decide +kernel, by decide +kernel⟩, List.mem_of_getElem? (i := 6) (by decide +kernel), List.mem_of_getElem? (i := 136) (by decide +kernel), List.mem_of_getElem? (i := 137) (by decide +kernel)⟩
theorem lw_p9 : lw_okq (⟨"LowPowerCpu", "highestPendingLine", "()I"⟩, 4) := ⟨⟨by decide +kernel, by decide +kernel⟩, List.mem_of_getElem? (i := 6) (by decide +kernel), List.mem_of_getElem? (i := 140) (by decide +kernel), List.mem_of_getElem? (i := 141) (by decide +kernel)⟩
theorem lw_p10 : lw_okq (⟨"LowPowerCpu", "push", "(IZ)V"⟩, 4) := ⟨⟨by decide +kernel, by decide +kernel⟩, List.mem_of_getElem? (i := 6) (by decide +kernel), List.mem_of_getElem? (i := 144) (by decide +kernel), List.mem_of_getElem? (i := 145) (by decide +kernel)⟩
theorem lw_p11 : lw_okq (⟨"LowPowerCpu", "addToRegister", "(II)V"⟩, 4) := ⟨⟨by decide +kernel, by decide +kernel⟩, List.mem_of_getElem? (i := 6) (by decide +kernel), List.mem_of_getElem? (i := 148) (by decide +kernel), List.mem_of_getElem? (i := 149) (by decide +kernel)⟩
theorem lw_p12 : lw_okq (⟨"LowPowerCpu$Memory", "writeByte", "(II)V"⟩, 2) := ⟨⟨by decide +kernel, by decide +kernel⟩, List.mem_of_getElem? (i := 14) (by decide +kernel), List.mem_of_getElem? (i := 152) (by decide +kernel), List.mem_of_getElem? (i := 153) (by decide +kernel)⟩
theorem lw_p13 : lw_okq (⟨"LowPowerCpu$Multiplier", "write", "(II)V"⟩, 6) := ⟨⟨by decide +kernel, by decide +kernel⟩, List.mem_of_getElem? (i := 20) (by decide +kernel), List.mem_of_getElem? (i := 157) (by decide +kernel), List.mem_of_getElem? (i := 158) (by decide +kernel)⟩
theorem lw_p14 : lw_okq (⟨"LowPowerCpu$Multiplier", "multiply", "()V"⟩, 6) := ⟨⟨by decide +kernel, by decide +kernel⟩, List.mem_of_getElem? (i := 20) (by decide +kernel), List.mem_of_getElem? (i := 162) (by decide +kernel), List.mem_of_getElem? (i := 163) (by decide +kernel)⟩
theorem lw_p15 : lw_okq (⟨"LowPowerCpu$Memory", "writeWord", "(II)V"⟩, 2) := ⟨⟨by decide +kernel, by decide +kernel⟩, List.mem_of_getElem? (i := 14) (by decide +kernel), List.mem_of_getElem? (i := 169) (by decide +kernel), List.mem_of_getElem? (i := 170) (by decide +kernel)⟩
def lw_privs_1 : List (MethodName × Nat) := [(⟨"LowPowerCpu$Multiplier", "clear", "()V"⟩, 6), (⟨"LowPowerCpu$Memory", "wordAt", "(I)I"⟩, 2), (⟨"LowPowerCpu$Multiplier", "wordAtSlot", "(I)I"⟩, 6), (⟨"LowPowerCpu", "setRegister", "(II)V"⟩, 4), (⟨"LowPowerCpu$Memory", "placeByte", "(II)V"⟩, 2), (⟨"LowPowerCpu$Multiplier", "placeWordAtSlot", "(II)V"⟩, 6), (⟨"LowPowerCpu$Memory", "placeWord", "(II)V"⟩, 2), (⟨"LowPowerCpu$Memory", "byteAt", "(I)I"⟩, 2), (⟨"LowPowerCpu", "interrupt", "()V"⟩, 4), (⟨"LowPowerCpu", "highestPendingLine", "()I"⟩, 4), (⟨"LowPowerCpu", "push", "(IZ)V"⟩, 4), (⟨"LowPowerCpu", "addToRegister", "(II)V"⟩, 4), (⟨"LowPowerCpu$Memory", "writeByte", "(II)V"⟩, 2), (⟨"LowPowerCpu$Multiplier", "write", "(II)V"⟩, 6), (⟨"LowPowerCpu$Multiplier", "multiply", "()V"⟩, 6), (⟨"LowPowerCpu$Memory", "writeWord", "(II)V"⟩, 2)]
theorem lw_r1 : ∀ q ∈ lw_privs_1, lw_okq q := List.forall_mem_cons.mpr ⟨lw_p0, List.forall_mem_cons.mpr ⟨lw_p1, List.forall_mem_cons.mpr ⟨lw_p2, List.forall_mem_cons.mpr ⟨lw_p3, List.forall_mem_cons.mpr ⟨lw_p4, List.forall_mem_cons.mpr ⟨lw_p5, List.forall_mem_cons.mpr ⟨lw_p6, List.forall_mem_cons.mpr ⟨lw_p7, List.forall_mem_cons.mpr ⟨lw_p8, List.forall_mem_cons.mpr ⟨lw_p9, List.forall_mem_cons.mpr ⟨lw_p10, List.forall_mem_cons.mpr ⟨lw_p11, List.forall_mem_cons.mpr ⟨lw_p12, List.forall_mem_cons.mpr ⟨lw_p13, List.forall_mem_cons.mpr ⟨lw_p14, List.forall_mem_cons.mpr ⟨lw_p15, fun _ h => absurd h List.not_mem_nil⟩⟩⟩⟩⟩⟩⟩⟩⟩⟩⟩⟩⟩⟩⟩⟩
theorem lw_p16 : lw_okq (⟨"LowPowerCpu", "spend", "(I)V"⟩, 4) := ⟨⟨by decide +kernel, by decide +kernel⟩, List.mem_of_getElem? (i := 6) (by decide +kernel), List.mem_of_getElem? (i := 174) (by decide +kernel), List.mem_of_getElem? (i := 175) (by decide +kernel)⟩
theorem lw_p17 : lw_okq (⟨"LowPowerCpu", "doTwoParts", "(I)V"⟩, 4) := ⟨⟨by decide +kernel, by decide +kernel⟩, List.mem_of_getElem? (i := 6) (by decide +kernel), List.mem_of_getElem? (i := 182) (by decide +kernel), List.mem_of_getElem? (i := 183) (by decide +kernel)⟩
theorem lw_p18 : lw_okq (⟨"LowPowerCpu", "sourcePlace", "(II)I"⟩, 4) := ⟨⟨by decide +kernel, by decide +kernel⟩, List.mem_of_getElem? (i := 6) (by decide +kernel), List.mem_of_getElem? (i := 186) (by decide +kernel), List.mem_of_getElem? (i := 187) (by decide +kernel)⟩
theorem lw_p19 : lw_okq (⟨"LowPowerCpu", "indexedPlace", "(I)I"⟩, 4) := ⟨⟨by decide +kernel, by decide +kernel⟩, List.mem_of_getElem? (i := 6) (by decide +kernel), List.mem_of_getElem? (i := 191) (by decide +kernel), List.mem_of_getElem? (i := 192) (by decide +kernel)⟩
theorem lw_p20 : lw_okq (⟨"LowPowerCpu", "valueAt", "(IZ)I"⟩, 4) := ⟨⟨by decide +kernel, by decide +kernel⟩, List.mem_of_getElem? (i := 6) (by decide +kernel), List.mem_of_getElem? (i := 195) (by decide +kernel), List.mem_of_getElem? (i := 196) (by decide +kernel)⟩
theorem lw_p21 : lw_okq (⟨"LowPowerCpu", "destinationPlace", "(I)I"⟩, 4) := ⟨⟨by decide +kernel, by decide +kernel⟩, List.mem_of_getElem? (i := 6) (by decide +kernel), List.mem_of_getElem? (i := 199) (by decide +kernel), List.mem_of_getElem? (i := 200) (by decide +kernel)⟩
theorem lw_p22 : lw_okq (⟨"LowPowerCpu", "combine", "(IIIZ)I"⟩, 4) := ⟨⟨by decide +kernel, by decide +kernel⟩, List.mem_of_getElem? (i := 6) (by decide +kernel), List.mem_of_getElem? (i := 203) (by decide +kernel), List.mem_of_getElem? (i := 204) (by decide +kernel)⟩
theorem lw_p23 : lw_okq (⟨"LowPowerCpu", "add", "(IIII)I"⟩, 4) := ⟨⟨by decide +kernel, by decide +kernel⟩, List.mem_of_getElem? (i := 6) (by decide +kernel), List.mem_of_getElem? (i := 207) (by decide +kernel), List.mem_of_getElem? (i := 208) (by decide +kernel)⟩
theorem lw_p24 : lw_okq (⟨"LowPowerCpu", "setFlags", "(IZZI)V"⟩, 4) := ⟨⟨by decide +kernel, by decide +kernel⟩, List.mem_of_getElem? (i := 6) (by decide +kernel), List.mem_of_getElem? (i := 214) (by decide +kernel), List.mem_of_getElem? (i := 215) (by decide +kernel)⟩
theorem lw_p25 : lw_okq (⟨"LowPowerCpu", "addDecimal", "(III)I"⟩, 4) := ⟨⟨by decide +kernel, by decide +kernel⟩, List.mem_of_getElem? (i := 6) (by decide +kernel), List.mem_of_getElem? (i := 218) (by decide +kernel), List.mem_of_getElem? (i := 219) (by decide +kernel)⟩
theorem lw_p26 : lw_okq (⟨"LowPowerCpu", "logical", "(IZI)I"⟩, 4) := ⟨⟨by decide +kernel, by decide +kernel⟩, List.mem_of_getElem? (i := 6) (by decide +kernel), List.mem_of_getElem? (i := 222) (by decide +kernel), List.mem_of_getElem? (i := 223) (by decide +kernel)⟩
theorem lw_p27 : lw_okq (⟨"LowPowerCpu", "put", "(IIZ)V"⟩, 4) := ⟨⟨by decide +kernel, by decide +kernel⟩, List.mem_of_getElem? (i := 6) (by decide +kernel), List.mem_of_getElem? (i := 226) (by decide +kernel), List.mem_of_getElem? (i := 227) (by decide +kernel)⟩
theorem lw_p28 : lw_okq (⟨"LowPowerCpu", "spendByKind", "([II)V"⟩, 4) := ⟨⟨by decide +kernel, by decide +kernel⟩, List.mem_of_getElem? (i := 6) (by decide +kernel), List.mem_of_getElem? (i := 244) (by decide +kernel), List.mem_of_getElem? (i := 245) (by decide +kernel)⟩
theorem lw_p29 : lw_okq (⟨"LowPowerCpu", "doJump", "(I)V"⟩, 4) := ⟨⟨by decide +kernel, by decide +kernel⟩, List.mem_of_getElem? (i := 6) (by decide +kernel), List.mem_of_getElem? (i := 248) (by decide +kernel), List.mem_of_getElem? (i := 249) (by decide +kernel)⟩
theorem lw_p30 : lw_okq (⟨"LowPowerCpu", "isJumpTaken", "(I)Z"⟩, 4) := ⟨⟨by decide +kernel, by decide +kernel⟩, List.mem_of_getElem? (i := 6) (by decide +kernel), List.mem_of_getElem? (i := 252) (by decide +kernel), List.mem_of_getElem? (i := 253) (by decide +kernel)⟩
theorem lw_p31 : lw_okq (⟨"LowPowerCpu", "isSet", "(I)Z"⟩, 4) := ⟨⟨by decide +kernel, by decide +kernel⟩, List.mem_of_getElem? (i := 6) (by decide +kernel), List.mem_of_getElem? (i := 256) (by decide +kernel), List.mem_of_getElem? (i := 257) (by decide +kernel)⟩
def lw_privs_2 : List (MethodName × Nat) := [(⟨"LowPowerCpu", "spend", "(I)V"⟩, 4), (⟨"LowPowerCpu", "doTwoParts", "(I)V"⟩, 4), (⟨"LowPowerCpu", "sourcePlace", "(II)I"⟩, 4), (⟨"LowPowerCpu", "indexedPlace", "(I)I"⟩, 4), (⟨"LowPowerCpu", "valueAt", "(IZ)I"⟩, 4), (⟨"LowPowerCpu", "destinationPlace", "(I)I"⟩, 4), (⟨"LowPowerCpu", "combine", "(IIIZ)I"⟩, 4), (⟨"LowPowerCpu", "add", "(IIII)I"⟩, 4), (⟨"LowPowerCpu", "setFlags", "(IZZI)V"⟩, 4), (⟨"LowPowerCpu", "addDecimal", "(III)I"⟩, 4), (⟨"LowPowerCpu", "logical", "(IZI)I"⟩, 4), (⟨"LowPowerCpu", "put", "(IIZ)V"⟩, 4), (⟨"LowPowerCpu", "spendByKind", "([II)V"⟩, 4), (⟨"LowPowerCpu", "doJump", "(I)V"⟩, 4), (⟨"LowPowerCpu", "isJumpTaken", "(I)Z"⟩, 4), (⟨"LowPowerCpu", "isSet", "(I)Z"⟩, 4)]
theorem lw_r2 : ∀ q ∈ lw_privs_2, lw_okq q := List.forall_mem_cons.mpr ⟨lw_p16, List.forall_mem_cons.mpr ⟨lw_p17, List.forall_mem_cons.mpr ⟨lw_p18, List.forall_mem_cons.mpr ⟨lw_p19, List.forall_mem_cons.mpr ⟨lw_p20, List.forall_mem_cons.mpr ⟨lw_p21, List.forall_mem_cons.mpr ⟨lw_p22, List.forall_mem_cons.mpr ⟨lw_p23, List.forall_mem_cons.mpr ⟨lw_p24, List.forall_mem_cons.mpr ⟨lw_p25, List.forall_mem_cons.mpr ⟨lw_p26, List.forall_mem_cons.mpr ⟨lw_p27, List.forall_mem_cons.mpr ⟨lw_p28, List.forall_mem_cons.mpr ⟨lw_p29, List.forall_mem_cons.mpr ⟨lw_p30, List.forall_mem_cons.mpr ⟨lw_p31, fun _ h => absurd h List.not_mem_nil⟩⟩⟩⟩⟩⟩⟩⟩⟩⟩⟩⟩⟩⟩⟩⟩
theorem lw_p32 : lw_okq (⟨"LowPowerCpu", "returnFromInterrupt", "()V"⟩, 4) := ⟨⟨by decide +kernel, by decide +kernel⟩, List.mem_of_getElem? (i := 6) (by decide +kernel), List.mem_of_getElem? (i := 260) (by decide +kernel), List.mem_of_getElem? (i := 261) (by decide +kernel)⟩
theorem lw_p33 : lw_okq (⟨"LowPowerCpu", "pop", "()I"⟩, 4) := ⟨⟨by decide +kernel, by decide +kernel⟩, List.mem_of_getElem? (i := 6) (by decide +kernel), List.mem_of_getElem? (i := 264) (by decide +kernel), List.mem_of_getElem? (i := 265) (by decide +kernel)⟩
theorem lw_p34 : lw_okq (⟨"LowPowerCpu", "doOnePart", "(I)V"⟩, 4) := ⟨⟨by decide +kernel, by decide +kernel⟩, List.mem_of_getElem? (i := 6) (by decide +kernel), List.mem_of_getElem? (i := 268) (by decide +kernel), List.mem_of_getElem? (i := 269) (by decide +kernel)⟩
theorem lw_p35 : lw_okq (⟨"LowPowerCpu", "change", "(IIZ)I"⟩, 4) := ⟨⟨by decide +kernel, by decide +kernel⟩, List.mem_of_getElem? (i := 6) (by decide +kernel), List.mem_of_getElem? (i := 276) (by decide +kernel), List.mem_of_getElem? (i := 277) (by decide +kernel)⟩
theorem lw_p36 : lw_okq (⟨"LowPowerCpu", "shifted", "(III)I"⟩, 4) := ⟨⟨by decide +kernel, by decide +kernel⟩, List.mem_of_getElem? (i := 6) (by decide +kernel), List.mem_of_getElem? (i := 280) (by decide +kernel), List.mem_of_getElem? (i := 281) (by decide +kernel)⟩
theorem lw_p37 : lw_okq (⟨"LowPowerCpuModel", "wordAt", "(I)I"⟩, 9) := ⟨⟨by decide +kernel, by decide +kernel⟩, List.mem_of_getElem? (i := 311) (by decide +kernel), List.mem_of_getElem? (i := 323) (by decide +kernel), List.mem_of_getElem? (i := 324) (by decide +kernel)⟩
theorem lw_p38 : lw_okq (⟨"LowPowerCpuModel", "setRegister", "(II)V"⟩, 9) := ⟨⟨by decide +kernel, by decide +kernel⟩, List.mem_of_getElem? (i := 311) (by decide +kernel), List.mem_of_getElem? (i := 334) (by decide +kernel), List.mem_of_getElem? (i := 335) (by decide +kernel)⟩
theorem lw_p39 : lw_okq (⟨"LowPowerCpuModel", "flag", "(I)I"⟩, 9) := ⟨⟨by decide +kernel, by decide +kernel⟩, List.mem_of_getElem? (i := 311) (by decide +kernel), List.mem_of_getElem? (i := 372) (by decide +kernel), List.mem_of_getElem? (i := 373) (by decide +kernel)⟩
theorem lw_p40 : lw_okq (⟨"LowPowerCpuModel", "interrupt", "()V"⟩, 9) := ⟨⟨by decide +kernel, by decide +kernel⟩, List.mem_of_getElem? (i := 311) (by decide +kernel), List.mem_of_getElem? (i := 376) (by decide +kernel), List.mem_of_getElem? (i := 377) (by decide +kernel)⟩
theorem lw_p41 : lw_okq (⟨"LowPowerCpuModel", "push", "(I)V"⟩, 9) := ⟨⟨by decide +kernel, by decide +kernel⟩, List.mem_of_getElem? (i := 311) (by decide +kernel), List.mem_of_getElem? (i := 380) (by decide +kernel), List.mem_of_getElem? (i := 381) (by decide +kernel)⟩
theorem lw_p42 : lw_okq (⟨"LowPowerCpuModel", "write", "(II)V"⟩, 9) := ⟨⟨by decide +kernel, by decide +kernel⟩, List.mem_of_getElem? (i := 311) (by decide +kernel), List.mem_of_getElem? (i := 385) (by decide +kernel), List.mem_of_getElem? (i := 386) (by decide +kernel)⟩
theorem lw_p43 : lw_okq (⟨"LowPowerCpuModel", "setByte", "(II)V"⟩, 9) := ⟨⟨by decide +kernel, by decide +kernel⟩, List.mem_of_getElem? (i := 311) (by decide +kernel), List.mem_of_getElem? (i := 389) (by decide +kernel), List.mem_of_getElem? (i := 390) (by decide +kernel)⟩
theorem lw_p44 : lw_okq (⟨"LowPowerCpuModel", "multiply", "(II)V"⟩, 9) := ⟨⟨by decide +kernel, by decide +kernel⟩, List.mem_of_getElem? (i := 311) (by decide +kernel), List.mem_of_getElem? (i := 397) (by decide +kernel), List.mem_of_getElem? (i := 398) (by decide +kernel)⟩
theorem lw_p45 : lw_okq (⟨"LowPowerCpuModel", "product", "()V"⟩, 9) := ⟨⟨by decide +kernel, by decide +kernel⟩, List.mem_of_getElem? (i := 311) (by decide +kernel), List.mem_of_getElem? (i := 401) (by decide +kernel), List.mem_of_getElem? (i := 402) (by decide +kernel)⟩
theorem lw_p46 : lw_okq (⟨"LowPowerCpuModel", "setWord", "(II)V"⟩, 9) := ⟨⟨by decide +kernel, by decide +kernel⟩, List.mem_of_getElem? (i := 311) (by decide +kernel), List.mem_of_getElem? (i := 407) (by decide +kernel), List.mem_of_getElem? (i := 408) (by decide +kernel)⟩
theorem lw_p47 : lw_okq (⟨"LowPowerCpuModel", "spend", "(I)V"⟩, 9) := ⟨⟨by decide +kernel, by decide +kernel⟩, List.mem_of_getElem? (i := 311) (by decide +kernel), List.mem_of_getElem? (i := 412) (by decide +kernel), List.mem_of_getElem? (i := 413) (by decide +kernel)⟩
def lw_privs_3 : List (MethodName × Nat) := [(⟨"LowPowerCpu", "returnFromInterrupt", "()V"⟩, 4), (⟨"LowPowerCpu", "pop", "()I"⟩, 4), (⟨"LowPowerCpu", "doOnePart", "(I)V"⟩, 4), (⟨"LowPowerCpu", "change", "(IIZ)I"⟩, 4), (⟨"LowPowerCpu", "shifted", "(III)I"⟩, 4), (⟨"LowPowerCpuModel", "wordAt", "(I)I"⟩, 9), (⟨"LowPowerCpuModel", "setRegister", "(II)V"⟩, 9), (⟨"LowPowerCpuModel", "flag", "(I)I"⟩, 9), (⟨"LowPowerCpuModel", "interrupt", "()V"⟩, 9), (⟨"LowPowerCpuModel", "push", "(I)V"⟩, 9), (⟨"LowPowerCpuModel", "write", "(II)V"⟩, 9), (⟨"LowPowerCpuModel", "setByte", "(II)V"⟩, 9), (⟨"LowPowerCpuModel", "multiply", "(II)V"⟩, 9), (⟨"LowPowerCpuModel", "product", "()V"⟩, 9), (⟨"LowPowerCpuModel", "setWord", "(II)V"⟩, 9), (⟨"LowPowerCpuModel", "spend", "(I)V"⟩, 9)]
theorem lw_r3 : ∀ q ∈ lw_privs_3, lw_okq q := List.forall_mem_cons.mpr ⟨lw_p32, List.forall_mem_cons.mpr ⟨lw_p33, List.forall_mem_cons.mpr ⟨lw_p34, List.forall_mem_cons.mpr ⟨lw_p35, List.forall_mem_cons.mpr ⟨lw_p36, List.forall_mem_cons.mpr ⟨lw_p37, List.forall_mem_cons.mpr ⟨lw_p38, List.forall_mem_cons.mpr ⟨lw_p39, List.forall_mem_cons.mpr ⟨lw_p40, List.forall_mem_cons.mpr ⟨lw_p41, List.forall_mem_cons.mpr ⟨lw_p42, List.forall_mem_cons.mpr ⟨lw_p43, List.forall_mem_cons.mpr ⟨lw_p44, List.forall_mem_cons.mpr ⟨lw_p45, List.forall_mem_cons.mpr ⟨lw_p46, List.forall_mem_cons.mpr ⟨lw_p47, fun _ h => absurd h List.not_mem_nil⟩⟩⟩⟩⟩⟩⟩⟩⟩⟩⟩⟩⟩⟩⟩⟩
theorem lw_p48 : lw_okq (⟨"LowPowerCpuModel", "taken", "()I"⟩, 9) := ⟨⟨by decide +kernel, by decide +kernel⟩, List.mem_of_getElem? (i := 311) (by decide +kernel), List.mem_of_getElem? (i := 420) (by decide +kernel), List.mem_of_getElem? (i := 421) (by decide +kernel)⟩
theorem lw_p49 : lw_okq (⟨"LowPowerCpuModel", "twoParts", "(I)V"⟩, 9) := ⟨⟨by decide +kernel, by decide +kernel⟩, List.mem_of_getElem? (i := 311) (by decide +kernel), List.mem_of_getElem? (i := 424) (by decide +kernel), List.mem_of_getElem? (i := 425) (by decide +kernel)⟩
theorem lw_p50 : lw_okq (⟨"LowPowerCpuModel", "source", "(II)V"⟩, 9) := ⟨⟨by decide +kernel, by decide +kernel⟩, List.mem_of_getElem? (i := 311) (by decide +kernel), List.mem_of_getElem? (i := 428) (by decide +kernel), List.mem_of_getElem? (i := 429) (by decide +kernel)⟩
theorem lw_p51 : lw_okq (⟨"LowPowerCpuModel", "register", "(I)V"⟩, 9) := ⟨⟨by decide +kernel, by decide +kernel⟩, List.mem_of_getElem? (i := 311) (by decide +kernel), List.mem_of_getElem? (i := 432) (by decide +kernel), List.mem_of_getElem? (i := 433) (by decide +kernel)⟩
theorem lw_p52 : lw_okq (⟨"LowPowerCpuModel", "indexed", "(I)V"⟩, 9) := ⟨⟨by decide +kernel, by decide +kernel⟩, List.mem_of_getElem? (i := 311) (by decide +kernel), List.mem_of_getElem? (i := 436) (by decide +kernel), List.mem_of_getElem? (i := 437) (by decide +kernel)⟩
theorem lw_p53 : lw_okq (⟨"LowPowerCpuModel", "memory", "(I)V"⟩, 9) := ⟨⟨by decide +kernel, by decide +kernel⟩, List.mem_of_getElem? (i := 311) (by decide +kernel), List.mem_of_getElem? (i := 440) (by decide +kernel), List.mem_of_getElem? (i := 441) (by decide +kernel)⟩
theorem lw_p54 : lw_okq (⟨"LowPowerCpuModel", "valueAt", "(I)I"⟩, 9) := ⟨⟨by decide +kernel, by decide +kernel⟩, List.mem_of_getElem? (i := 311) (by decide +kernel), List.mem_of_getElem? (i := 444) (by decide +kernel), List.mem_of_getElem? (i := 445) (by decide +kernel)⟩
theorem lw_p55 : lw_okq (⟨"LowPowerCpuModel", "byteAt", "(I)I"⟩, 9) := ⟨⟨by decide +kernel, by decide +kernel⟩, List.mem_of_getElem? (i := 311) (by decide +kernel), List.mem_of_getElem? (i := 448) (by decide +kernel), List.mem_of_getElem? (i := 449) (by decide +kernel)⟩
theorem lw_p56 : lw_okq (⟨"LowPowerCpuModel", "number", "(I)V"⟩, 9) := ⟨⟨by decide +kernel, by decide +kernel⟩, List.mem_of_getElem? (i := 311) (by decide +kernel), List.mem_of_getElem? (i := 452) (by decide +kernel), List.mem_of_getElem? (i := 453) (by decide +kernel)⟩
theorem lw_p57 : lw_okq (⟨"LowPowerCpuModel", "joined", "(III)I"⟩, 9) := ⟨⟨by decide +kernel, by decide +kernel⟩, List.mem_of_getElem? (i := 311) (by decide +kernel), List.mem_of_getElem? (i := 456) (by decide +kernel), List.mem_of_getElem? (i := 457) (by decide +kernel)⟩
theorem lw_p58 : lw_okq (⟨"LowPowerCpuModel", "all", "()I"⟩, 9) := ⟨⟨by decide +kernel, by decide +kernel⟩, List.mem_of_getElem? (i := 311) (by decide +kernel), List.mem_of_getElem? (i := 460) (by decide +kernel), List.mem_of_getElem? (i := 461) (by decide +kernel)⟩
theorem lw_p59 : lw_okq (⟨"LowPowerCpuModel", "sum", "(III)I"⟩, 9) := ⟨⟨by decide +kernel, by decide +kernel⟩, List.mem_of_getElem? (i := 311) (by decide +kernel), List.mem_of_getElem? (i := 464) (by decide +kernel), List.mem_of_getElem? (i := 465) (by decide +kernel)⟩
theorem lw_p60 : lw_okq (⟨"LowPowerCpuModel", "high", "()I"⟩, 9) := ⟨⟨by decide +kernel, by decide +kernel⟩, List.mem_of_getElem? (i := 311) (by decide +kernel), List.mem_of_getElem? (i := 468) (by decide +kernel), List.mem_of_getElem? (i := 469) (by decide +kernel)⟩
theorem lw_p61 : lw_okq (⟨"LowPowerCpuModel", "flags", "(IZZ)V"⟩, 9) := ⟨⟨by decide +kernel, by decide +kernel⟩, List.mem_of_getElem? (i := 311) (by decide +kernel), List.mem_of_getElem? (i := 472) (by decide +kernel), List.mem_of_getElem? (i := 473) (by decide +kernel)⟩
theorem lw_p62 : lw_okq (⟨"LowPowerCpuModel", "setFlag", "(IZ)V"⟩, 9) := ⟨⟨by decide +kernel, by decide +kernel⟩, List.mem_of_getElem? (i := 311) (by decide +kernel), List.mem_of_getElem? (i := 476) (by decide +kernel), List.mem_of_getElem? (i := 477) (by decide +kernel)⟩
theorem lw_p63 : lw_okq (⟨"LowPowerCpuModel", "decimal", "(II)I"⟩, 9) := ⟨⟨by decide +kernel, by decide +kernel⟩, List.mem_of_getElem? (i := 311) (by decide +kernel), List.mem_of_getElem? (i := 480) (by decide +kernel), List.mem_of_getElem? (i := 481) (by decide +kernel)⟩
def lw_privs_4 : List (MethodName × Nat) := [(⟨"LowPowerCpuModel", "taken", "()I"⟩, 9), (⟨"LowPowerCpuModel", "twoParts", "(I)V"⟩, 9), (⟨"LowPowerCpuModel", "source", "(II)V"⟩, 9), (⟨"LowPowerCpuModel", "register", "(I)V"⟩, 9), (⟨"LowPowerCpuModel", "indexed", "(I)V"⟩, 9), (⟨"LowPowerCpuModel", "memory", "(I)V"⟩, 9), (⟨"LowPowerCpuModel", "valueAt", "(I)I"⟩, 9), (⟨"LowPowerCpuModel", "byteAt", "(I)I"⟩, 9), (⟨"LowPowerCpuModel", "number", "(I)V"⟩, 9), (⟨"LowPowerCpuModel", "joined", "(III)I"⟩, 9), (⟨"LowPowerCpuModel", "all", "()I"⟩, 9), (⟨"LowPowerCpuModel", "sum", "(III)I"⟩, 9), (⟨"LowPowerCpuModel", "high", "()I"⟩, 9), (⟨"LowPowerCpuModel", "flags", "(IZZ)V"⟩, 9), (⟨"LowPowerCpuModel", "setFlag", "(IZ)V"⟩, 9), (⟨"LowPowerCpuModel", "decimal", "(II)I"⟩, 9)]
theorem lw_r4 : ∀ q ∈ lw_privs_4, lw_okq q := List.forall_mem_cons.mpr ⟨lw_p48, List.forall_mem_cons.mpr ⟨lw_p49, List.forall_mem_cons.mpr ⟨lw_p50, List.forall_mem_cons.mpr ⟨lw_p51, List.forall_mem_cons.mpr ⟨lw_p52, List.forall_mem_cons.mpr ⟨lw_p53, List.forall_mem_cons.mpr ⟨lw_p54, List.forall_mem_cons.mpr ⟨lw_p55, List.forall_mem_cons.mpr ⟨lw_p56, List.forall_mem_cons.mpr ⟨lw_p57, List.forall_mem_cons.mpr ⟨lw_p58, List.forall_mem_cons.mpr ⟨lw_p59, List.forall_mem_cons.mpr ⟨lw_p60, List.forall_mem_cons.mpr ⟨lw_p61, List.forall_mem_cons.mpr ⟨lw_p62, List.forall_mem_cons.mpr ⟨lw_p63, fun _ h => absurd h List.not_mem_nil⟩⟩⟩⟩⟩⟩⟩⟩⟩⟩⟩⟩⟩⟩⟩⟩
theorem lw_p64 : lw_okq (⟨"LowPowerCpuModel", "jump", "(I)V"⟩, 9) := ⟨⟨by decide +kernel, by decide +kernel⟩, List.mem_of_getElem? (i := 311) (by decide +kernel), List.mem_of_getElem? (i := 490) (by decide +kernel), List.mem_of_getElem? (i := 491) (by decide +kernel)⟩
theorem lw_p65 : lw_okq (⟨"LowPowerCpuModel", "jumps", "(I)Z"⟩, 9) := ⟨⟨by decide +kernel, by decide +kernel⟩, List.mem_of_getElem? (i := 311) (by decide +kernel), List.mem_of_getElem? (i := 494) (by decide +kernel), List.mem_of_getElem? (i := 495) (by decide +kernel)⟩
theorem lw_p66 : lw_okq (⟨"LowPowerCpuModel", "onePart", "(I)V"⟩, 9) := ⟨⟨by decide +kernel, by decide +kernel⟩, List.mem_of_getElem? (i := 311) (by decide +kernel), List.mem_of_getElem? (i := 498) (by decide +kernel), List.mem_of_getElem? (i := 499) (by decide +kernel)⟩
theorem lw_p67 : lw_okq (⟨"LowPowerCpuModel", "popped", "()I"⟩, 9) := ⟨⟨by decide +kernel, by decide +kernel⟩, List.mem_of_getElem? (i := 311) (by decide +kernel), List.mem_of_getElem? (i := 502) (by decide +kernel), List.mem_of_getElem? (i := 503) (by decide +kernel)⟩
theorem lw_p68 : lw_okq (⟨"LowPowerCpuModel", "shifted", "(I)V"⟩, 9) := ⟨⟨by decide +kernel, by decide +kernel⟩, List.mem_of_getElem? (i := 311) (by decide +kernel), List.mem_of_getElem? (i := 506) (by decide +kernel), List.mem_of_getElem? (i := 507) (by decide +kernel)⟩
def lw_privs_5 : List (MethodName × Nat) := [(⟨"LowPowerCpuModel", "jump", "(I)V"⟩, 9), (⟨"LowPowerCpuModel", "jumps", "(I)Z"⟩, 9), (⟨"LowPowerCpuModel", "onePart", "(I)V"⟩, 9), (⟨"LowPowerCpuModel", "popped", "()I"⟩, 9), (⟨"LowPowerCpuModel", "shifted", "(I)V"⟩, 9)]
theorem lw_r5 : ∀ q ∈ lw_privs_5, lw_okq q := List.forall_mem_cons.mpr ⟨lw_p64, List.forall_mem_cons.mpr ⟨lw_p65, List.forall_mem_cons.mpr ⟨lw_p66, List.forall_mem_cons.mpr ⟨lw_p67, List.forall_mem_cons.mpr ⟨lw_p68, fun _ h => absurd h List.not_mem_nil⟩⟩⟩⟩⟩
def lw_privs : List (MethodName × Nat) := lw_privs_1 ++ (lw_privs_2 ++ (lw_privs_3 ++ (lw_privs_4 ++ (lw_privs_5))))
def lw_tbl : List Cond := k2_sels lw_privs ++ tables_1
theorem lw_privs_ok : ∀ q ∈ lw_privs, lw_okq q := by
  show ∀ q ∈ lw_privs_1 ++ (lw_privs_2 ++ (lw_privs_3 ++ (lw_privs_4 ++ (lw_privs_5)))), lw_okq q
  exact List.forall_mem_append.mpr ⟨lw_r1, List.forall_mem_append.mpr ⟨lw_r2, List.forall_mem_append.mpr ⟨lw_r3, List.forall_mem_append.mpr ⟨lw_r4, lw_r5⟩⟩⟩⟩
end
section
/-! ===== BEGIN words of one list among another's, by their places ===== -/
theorem goodIn_r {big : List Cond} (ws : List Cond) (ps : List Nat) (hp : ws = ps.filterMap (fun i => big[i]?)) (h : ws.all goodWord = true) : GoodIn big ws := by
  intro w hw
  have h1 := List.all_eq_true.mp h w hw
  rw [hp] at hw
  obtain ⟨i, -, hi⟩ := List.mem_filterMap.mp hw
  have hm : w ∈ big := by first | exact List.mem_of_getElem? hi | exact List.getElem?_mem hi
  exact ⟨hm, good_of_word h1⟩
theorem goodIn_app {big a b : List Cond} (ha : GoodIn big a) (hb : GoodIn big b) : GoodIn big (a ++ b) := fun w h => (List.mem_append.mp h).elim (ha w) (hb w)
theorem goodIn_ca {big a b : List Cond} {c : Cond} (ha : GoodIn big (c :: a)) (hb : GoodIn big b) : GoodIn big (c :: (a ++ b)) := fun w h => (List.mem_cons.mp h).elim (fun e => ha w (List.mem_cons.mpr (Or.inl e))) (fun h => (List.mem_append.mp h).elim (fun h => ha w (List.mem_cons.mpr (Or.inr h))) (hb w))
theorem goodIn_sub {big ws : List Cond} (hm : ∀ w ∈ ws, w ∈ big) (h : ws.all goodWord = true) : GoodIn big ws := fun w hw => ⟨hm w hw, good_of_word (List.all_eq_true.mp h w hw)⟩
/-! ===== END ===== -/

/-! ===== BEGIN printed: names, fields, word lists, decode rows ===== -/
def RX0 : String := "LowPowerCpu$Memory"
def TX0 : u_T := fun k => match k with
  | 0 => ("LowPowerCpu$Memory", "cells", "[J", true)
  | _ => ("LowPowerCpu$Memory", "multiplier", "LLowPowerCpu$Multiplier;", true)
def tyX0 : Nat → FieldType := fun k => match k with
  | 0 => .array .long
  | _ => .object "LowPowerCpu$Multiplier"
abbrev wsX00 : List Cond := u_ws RX0 TX0 2
theorem nmX0 : ∀ a, a < 2 → ∀ b, b < 2 → a ≠ b → (TX0 a).2.1 ≠ (TX0 b).2.1 := by decide +kernel
theorem tyX0_ok : ∀ k, k < 2 → parseFieldDescriptor (TX0 k).2.2.1 = some (tyX0 k) := by decide +kernel
abbrev cX0_init : ByteArray := prog_2_method_1_code
def yX0_init : MethodName := ⟨RX0, "<init>", "()V"⟩
abbrev cX0_isMultiplier : ByteArray := prog_2_method_2_code
def yX0_isMultiplier : MethodName := ⟨RX0, "isMultiplier", "(I)Z"⟩
abbrev cX0_wordAt : ByteArray := prog_2_method_3_code
def yX0_wordAt : MethodName := ⟨RX0, "wordAt", "(I)I"⟩
abbrev cX0_byteAt : ByteArray := prog_2_method_4_code
def yX0_byteAt : MethodName := ⟨RX0, "byteAt", "(I)I"⟩
abbrev cX0_writeWord : ByteArray := prog_2_method_5_code
def yX0_writeWord : MethodName := ⟨RX0, "writeWord", "(II)V"⟩
abbrev cX0_writeByte : ByteArray := prog_2_method_6_code
def yX0_writeByte : MethodName := ⟨RX0, "writeByte", "(II)V"⟩
abbrev cX0_placeByte : ByteArray := prog_2_method_7_code
def yX0_placeByte : MethodName := ⟨RX0, "placeByte", "(II)V"⟩
abbrev cX0_placeWord : ByteArray := prog_2_method_8_code
def yX0_placeWord : MethodName := ⟨RX0, "placeWord", "(II)V"⟩
abbrev cX0_cellOf : ByteArray := prog_2_method_9_code
def yX0_cellOf : MethodName := ⟨RX0, "cellOf", "(I)I"⟩
abbrev cX0_slotOf : ByteArray := prog_2_method_10_code
def yX0_slotOf : MethodName := ⟨RX0, "slotOf", "(I)I"⟩
def RX1 : String := "LowPowerCpu$Multiplier"
def TX1 : u_T := fun k => match k with
  | 0 => ("LowPowerCpu$Multiplier", "one", "I", false)
  | 1 => ("LowPowerCpu$Multiplier", "two", "I", false)
  | 2 => ("LowPowerCpu$Multiplier", "low", "I", false)
  | 3 => ("LowPowerCpu$Multiplier", "high", "I", false)
  | 4 => ("LowPowerCpu$Multiplier", "extra", "I", false)
  | _ => ("LowPowerCpu$Multiplier", "way", "I", false)
def tyX1 : Nat → FieldType := fun k => match k with
  | 0 => .int
  | 1 => .int
  | 2 => .int
  | 3 => .int
  | 4 => .int
  | _ => .int
abbrev wsX10 : List Cond := u_ws RX1 TX1 6
theorem nmX1 : ∀ a, a < 6 → ∀ b, b < 6 → a ≠ b → (TX1 a).2.1 ≠ (TX1 b).2.1 := by decide +kernel
theorem tyX1_ok : ∀ k, k < 6 → parseFieldDescriptor (TX1 k).2.2.1 = some (tyX1 k) := by decide +kernel
abbrev cX1_init : ByteArray := prog_3_method_1_code
def yX1_init : MethodName := ⟨RX1, "<init>", "()V"⟩
abbrev cX1_clear : ByteArray := prog_3_method_2_code
def yX1_clear : MethodName := ⟨RX1, "clear", "()V"⟩
abbrev cX1_wordAtSlot : ByteArray := prog_3_method_3_code
def yX1_wordAtSlot : MethodName := ⟨RX1, "wordAtSlot", "(I)I"⟩
abbrev cX1_placeWordAtSlot : ByteArray := prog_3_method_4_code
def yX1_placeWordAtSlot : MethodName := ⟨RX1, "placeWordAtSlot", "(II)V"⟩
abbrev cX1_write : ByteArray := prog_3_method_5_code
def yX1_write : MethodName := ⟨RX1, "write", "(II)V"⟩
abbrev cX1_multiply : ByteArray := prog_3_method_6_code
def yX1_multiply : MethodName := ⟨RX1, "multiply", "()V"⟩
def RX2 : String := "LowPowerCpu"
def TX2 : u_T := fun k => match k with
  | 0 => ("LowPowerCpu", "memory", "LLowPowerCpu$Memory;", true)
  | 1 => ("LowPowerCpu", "registers", "[I", true)
  | 2 => ("LowPowerCpu", "pendingLines", "I", false)
  | _ => ("LowPowerCpu", "cycles", "I", false)
def tyX2 : Nat → FieldType := fun k => match k with
  | 0 => .object "LowPowerCpu$Memory"
  | 1 => .array .int
  | 2 => .int
  | _ => .int
abbrev wsX20 : List Cond := u_ws RX2 TX2 4
theorem nmX2 : ∀ a, a < 4 → ∀ b, b < 4 → a ≠ b → (TX2 a).2.1 ≠ (TX2 b).2.1 := by decide +kernel
theorem tyX2_ok : ∀ k, k < 4 → parseFieldDescriptor (TX2 k).2.2.1 = some (tyX2 k) := by decide +kernel
abbrev cX2_init : ByteArray := prog_1_method_1_code
def yX2_init : MethodName := ⟨RX2, "<init>", "()V"⟩
abbrev cX2_init_ : ByteArray := prog_1_method_2_code
def yX2_init_ : MethodName := ⟨RX2, "init", "()V"⟩
abbrev cX2_poke : ByteArray := prog_1_method_3_code
def yX2_poke : MethodName := ⟨RX2, "poke", "(II)Z"⟩
abbrev cX2_peek : ByteArray := prog_1_method_4_code
def yX2_peek : MethodName := ⟨RX2, "peek", "(I)I"⟩
abbrev cX2_step : ByteArray := prog_1_method_5_code
def yX2_step : MethodName := ⟨RX2, "step", "()I"⟩
abbrev cX2_run : ByteArray := prog_1_method_6_code
def yX2_run : MethodName := ⟨RX2, "run", "(I)I"⟩
abbrev cX2_reg : ByteArray := prog_1_method_7_code
def yX2_reg : MethodName := ⟨RX2, "reg", "(I)I"⟩
abbrev cX2_raise : ByteArray := prog_1_method_8_code
def yX2_raise : MethodName := ⟨RX2, "raise", "(I)Z"⟩
abbrev cX2_cyclesOf : ByteArray := prog_1_method_9_code
def yX2_cyclesOf : MethodName := ⟨RX2, "cyclesOf", "()I"⟩
abbrev cX2_pending : ByteArray := prog_1_method_10_code
def yX2_pending : MethodName := ⟨RX2, "pending", "()I"⟩
abbrev cX2_mode : ByteArray := prog_1_method_11_code
def yX2_mode : MethodName := ⟨RX2, "mode", "()I"⟩
abbrev cX2_interrupt : ByteArray := prog_1_method_12_code
def yX2_interrupt : MethodName := ⟨RX2, "interrupt", "()V"⟩
abbrev cX2_highestPendingLine : ByteArray := prog_1_method_13_code
def yX2_highestPendingLine : MethodName := ⟨RX2, "highestPendingLine", "()I"⟩
abbrev cX2_isUnassigned : ByteArray := prog_1_method_14_code
def yX2_isUnassigned : MethodName := ⟨RX2, "isUnassigned", "(I)Z"⟩
abbrev cX2_doTwoParts : ByteArray := prog_1_method_15_code
def yX2_doTwoParts : MethodName := ⟨RX2, "doTwoParts", "(I)V"⟩
abbrev cX2_doOnePart : ByteArray := prog_1_method_16_code
def yX2_doOnePart : MethodName := ⟨RX2, "doOnePart", "(I)V"⟩
abbrev cX2_doJump : ByteArray := prog_1_method_17_code
def yX2_doJump : MethodName := ⟨RX2, "doJump", "(I)V"⟩
abbrev cX2_isJumpTaken : ByteArray := prog_1_method_18_code
def yX2_isJumpTaken : MethodName := ⟨RX2, "isJumpTaken", "(I)Z"⟩
abbrev cX2_returnFromInterrupt : ByteArray := prog_1_method_19_code
def yX2_returnFromInterrupt : MethodName := ⟨RX2, "returnFromInterrupt", "()V"⟩
abbrev cX2_sourcePlace : ByteArray := prog_1_method_20_code
def yX2_sourcePlace : MethodName := ⟨RX2, "sourcePlace", "(II)I"⟩
abbrev cX2_destinationPlace : ByteArray := prog_1_method_21_code
def yX2_destinationPlace : MethodName := ⟨RX2, "destinationPlace", "(I)I"⟩
abbrev cX2_indexedPlace : ByteArray := prog_1_method_22_code
def yX2_indexedPlace : MethodName := ⟨RX2, "indexedPlace", "(I)I"⟩
abbrev cX2_valueAt : ByteArray := prog_1_method_23_code
def yX2_valueAt : MethodName := ⟨RX2, "valueAt", "(IZ)I"⟩
abbrev cX2_put : ByteArray := prog_1_method_24_code
def yX2_put : MethodName := ⟨RX2, "put", "(IIZ)V"⟩
abbrev cX2_combine : ByteArray := prog_1_method_25_code
def yX2_combine : MethodName := ⟨RX2, "combine", "(IIIZ)I"⟩
abbrev cX2_add : ByteArray := prog_1_method_26_code
def yX2_add : MethodName := ⟨RX2, "add", "(IIII)I"⟩
abbrev cX2_addDecimal : ByteArray := prog_1_method_27_code
def yX2_addDecimal : MethodName := ⟨RX2, "addDecimal", "(III)I"⟩
abbrev cX2_logical : ByteArray := prog_1_method_28_code
def yX2_logical : MethodName := ⟨RX2, "logical", "(IZI)I"⟩
abbrev cX2_change : ByteArray := prog_1_method_29_code
def yX2_change : MethodName := ⟨RX2, "change", "(IIZ)I"⟩
abbrev cX2_shifted : ByteArray := prog_1_method_30_code
def yX2_shifted : MethodName := ⟨RX2, "shifted", "(III)I"⟩
abbrev cX2_isHighestSet : ByteArray := prog_1_method_31_code
def yX2_isHighestSet : MethodName := ⟨RX2, "isHighestSet", "(II)Z"⟩
abbrev cX2_setFlags : ByteArray := prog_1_method_32_code
def yX2_setFlags : MethodName := ⟨RX2, "setFlags", "(IZZI)V"⟩
abbrev cX2_isSet : ByteArray := prog_1_method_33_code
def yX2_isSet : MethodName := ⟨RX2, "isSet", "(I)Z"⟩
abbrev cX2_push : ByteArray := prog_1_method_34_code
def yX2_push : MethodName := ⟨RX2, "push", "(IZ)V"⟩
abbrev cX2_pop : ByteArray := prog_1_method_35_code
def yX2_pop : MethodName := ⟨RX2, "pop", "()I"⟩
abbrev cX2_addToRegister : ByteArray := prog_1_method_36_code
def yX2_addToRegister : MethodName := ⟨RX2, "addToRegister", "(II)V"⟩
abbrev cX2_setRegister : ByteArray := prog_1_method_37_code
def yX2_setRegister : MethodName := ⟨RX2, "setRegister", "(II)V"⟩
abbrev cX2_kindOfSource : ByteArray := prog_1_method_38_code
def yX2_kindOfSource : MethodName := ⟨RX2, "kindOfSource", "(II)I"⟩
abbrev cX2_twoPartsCycles : ByteArray := prog_1_method_39_code
def yX2_twoPartsCycles : MethodName := ⟨RX2, "twoPartsCycles", "(I)[I"⟩
abbrev cX2_spendByKind : ByteArray := prog_1_method_40_code
def yX2_spendByKind : MethodName := ⟨RX2, "spendByKind", "([II)V"⟩
abbrev cX2_spend : ByteArray := prog_1_method_41_code
def yX2_spend : MethodName := ⟨RX2, "spend", "(I)V"⟩
def RX3 : String := "LowPowerCpuModel"
def TX3 : u_T := fun k => match k with
  | 0 => ("LowPowerCpuModel", "words", "[S", true)
  | 1 => ("LowPowerCpuModel", "\x72", "[I", true)
  | 2 => ("LowPowerCpuModel", "by", "[I", true)
  | 3 => ("LowPowerCpuModel", "how", "I", false)
  | 4 => ("LowPowerCpuModel", "lines", "I", false)
  | 5 => ("LowPowerCpuModel", "cycles", "I", false)
  | 6 => ("LowPowerCpuModel", "part", "I", false)
  | 7 => ("LowPowerCpuModel", "where", "I", false)
  | _ => ("LowPowerCpuModel", "bytes", "Z", false)
def tyX3 : Nat → FieldType := fun k => match k with
  | 0 => .array .short
  | 1 => .array .int
  | 2 => .array .int
  | 3 => .int
  | 4 => .int
  | 5 => .int
  | 6 => .int
  | 7 => .int
  | _ => .boolean
abbrev wsX30 : List Cond := u_ws RX3 TX3 9
theorem nmX3 : ∀ a, a < 9 → ∀ b, b < 9 → a ≠ b → (TX3 a).2.1 ≠ (TX3 b).2.1 := by decide +kernel
theorem tyX3_ok : ∀ k, k < 9 → parseFieldDescriptor (TX3 k).2.2.1 = some (tyX3 k) := by decide +kernel
abbrev cX3_init : ByteArray := prog_5_method_1_code
def yX3_init : MethodName := ⟨RX3, "<init>", "()V"⟩
abbrev cX3_init_ : ByteArray := prog_5_method_2_code
def yX3_init_ : MethodName := ⟨RX3, "init", "()V"⟩
abbrev cX3_isMultiplier : ByteArray := prog_5_method_3_code
def yX3_isMultiplier : MethodName := ⟨RX3, "isMultiplier", "(I)Z"⟩
abbrev cX3_which : ByteArray := prog_5_method_4_code
def yX3_which : MethodName := ⟨RX3, "which", "(I)I"⟩
abbrev cX3_wordAt : ByteArray := prog_5_method_5_code
def yX3_wordAt : MethodName := ⟨RX3, "wordAt", "(I)I"⟩
abbrev cX3_byteAt : ByteArray := prog_5_method_6_code
def yX3_byteAt : MethodName := ⟨RX3, "byteAt", "(I)I"⟩
abbrev cX3_valueAt : ByteArray := prog_5_method_7_code
def yX3_valueAt : MethodName := ⟨RX3, "valueAt", "(I)I"⟩
abbrev cX3_withByte : ByteArray := prog_5_method_8_code
def yX3_withByte : MethodName := ⟨RX3, "withByte", "(III)I"⟩
abbrev cX3_setWord : ByteArray := prog_5_method_9_code
def yX3_setWord : MethodName := ⟨RX3, "setWord", "(II)V"⟩
abbrev cX3_setByte : ByteArray := prog_5_method_10_code
def yX3_setByte : MethodName := ⟨RX3, "setByte", "(II)V"⟩
abbrev cX3_multiply : ByteArray := prog_5_method_11_code
def yX3_multiply : MethodName := ⟨RX3, "multiply", "(II)V"⟩
abbrev cX3_product : ByteArray := prog_5_method_12_code
def yX3_product : MethodName := ⟨RX3, "product", "()V"⟩
abbrev cX3_setRegister : ByteArray := prog_5_method_13_code
def yX3_setRegister : MethodName := ⟨RX3, "setRegister", "(II)V"⟩
abbrev cX3_write : ByteArray := prog_5_method_14_code
def yX3_write : MethodName := ⟨RX3, "write", "(II)V"⟩
abbrev cX3_taken : ByteArray := prog_5_method_15_code
def yX3_taken : MethodName := ⟨RX3, "taken", "()I"⟩
abbrev cX3_number : ByteArray := prog_5_method_16_code
def yX3_number : MethodName := ⟨RX3, "number", "(I)V"⟩
abbrev cX3_register : ByteArray := prog_5_method_17_code
def yX3_register : MethodName := ⟨RX3, "register", "(I)V"⟩
abbrev cX3_memory : ByteArray := prog_5_method_18_code
def yX3_memory : MethodName := ⟨RX3, "memory", "(I)V"⟩
abbrev cX3_indexed : ByteArray := prog_5_method_19_code
def yX3_indexed : MethodName := ⟨RX3, "indexed", "(I)V"⟩
abbrev cX3_source : ByteArray := prog_5_method_20_code
def yX3_source : MethodName := ⟨RX3, "source", "(II)V"⟩
abbrev cX3_sort : ByteArray := prog_5_method_21_code
def yX3_sort : MethodName := ⟨RX3, "sort", "(II)I"⟩
abbrev cX3_pick : ByteArray := prog_5_method_22_code
def yX3_pick : MethodName := ⟨RX3, "pick", "(II)I"⟩
abbrev cX3_spend : ByteArray := prog_5_method_23_code
def yX3_spend : MethodName := ⟨RX3, "spend", "(I)V"⟩
abbrev cX3_flag : ByteArray := prog_5_method_24_code
def yX3_flag : MethodName := ⟨RX3, "flag", "(I)I"⟩
abbrev cX3_setFlag : ByteArray := prog_5_method_25_code
def yX3_setFlag : MethodName := ⟨RX3, "setFlag", "(IZ)V"⟩
abbrev cX3_high : ByteArray := prog_5_method_26_code
def yX3_high : MethodName := ⟨RX3, "high", "()I"⟩
abbrev cX3_all : ByteArray := prog_5_method_27_code
def yX3_all : MethodName := ⟨RX3, "all", "()I"⟩
abbrev cX3_flags : ByteArray := prog_5_method_28_code
def yX3_flags : MethodName := ⟨RX3, "flags", "(IZZ)V"⟩
abbrev cX3_sum : ByteArray := prog_5_method_29_code
def yX3_sum : MethodName := ⟨RX3, "sum", "(III)I"⟩
abbrev cX3_decimal : ByteArray := prog_5_method_30_code
def yX3_decimal : MethodName := ⟨RX3, "decimal", "(II)I"⟩
abbrev cX3_joined : ByteArray := prog_5_method_31_code
def yX3_joined : MethodName := ⟨RX3, "joined", "(III)I"⟩
abbrev cX3_twoParts : ByteArray := prog_5_method_32_code
def yX3_twoParts : MethodName := ⟨RX3, "twoParts", "(I)V"⟩
abbrev cX3_push : ByteArray := prog_5_method_33_code
def yX3_push : MethodName := ⟨RX3, "push", "(I)V"⟩
abbrev cX3_popped : ByteArray := prog_5_method_34_code
def yX3_popped : MethodName := ⟨RX3, "popped", "()I"⟩
abbrev cX3_shifted : ByteArray := prog_5_method_35_code
def yX3_shifted : MethodName := ⟨RX3, "shifted", "(I)V"⟩
abbrev cX3_onePart : ByteArray := prog_5_method_36_code
def yX3_onePart : MethodName := ⟨RX3, "onePart", "(I)V"⟩
abbrev cX3_jumps : ByteArray := prog_5_method_37_code
def yX3_jumps : MethodName := ⟨RX3, "jumps", "(I)Z"⟩
abbrev cX3_jump : ByteArray := prog_5_method_38_code
def yX3_jump : MethodName := ⟨RX3, "jump", "(I)V"⟩
abbrev cX3_isAssigned : ByteArray := prog_5_method_39_code
def yX3_isAssigned : MethodName := ⟨RX3, "isAssigned", "(I)Z"⟩
abbrev cX3_interrupt : ByteArray := prog_5_method_40_code
def yX3_interrupt : MethodName := ⟨RX3, "interrupt", "()V"⟩
abbrev cX3_step : ByteArray := prog_5_method_41_code
def yX3_step : MethodName := ⟨RX3, "step", "()I"⟩
abbrev cX3_run : ByteArray := prog_5_method_42_code
def yX3_run : MethodName := ⟨RX3, "run", "(I)I"⟩
abbrev cX3_isAddress : ByteArray := prog_5_method_43_code
def yX3_isAddress : MethodName := ⟨RX3, "isAddress", "(I)Z"⟩
abbrev cX3_poke : ByteArray := prog_5_method_44_code
def yX3_poke : MethodName := ⟨RX3, "poke", "(II)Z"⟩
abbrev cX3_peek : ByteArray := prog_5_method_45_code
def yX3_peek : MethodName := ⟨RX3, "peek", "(I)I"⟩
abbrev cX3_reg : ByteArray := prog_5_method_46_code
def yX3_reg : MethodName := ⟨RX3, "reg", "(I)I"⟩
abbrev cX3_raise : ByteArray := prog_5_method_47_code
def yX3_raise : MethodName := ⟨RX3, "raise", "(I)Z"⟩
abbrev cX3_cyclesOf : ByteArray := prog_5_method_48_code
def yX3_cyclesOf : MethodName := ⟨RX3, "cyclesOf", "()I"⟩
abbrev cX3_pending : ByteArray := prog_5_method_49_code
def yX3_pending : MethodName := ⟨RX3, "pending", "()I"⟩
abbrev cX3_mode : ByteArray := prog_5_method_50_code
def yX3_mode : MethodName := ⟨RX3, "mode", "()I"⟩
def RL : String := "LowPowerCpuLaw"
abbrev cL_law : ByteArray := code
def yL_law : MethodName := ⟨RL, "law", "([I)Z"⟩
def wsX1_init : List Cond := .code yX1_init cX1_init 1 none :: ([.methodLink RX1 1 objectInit, .instanceMethod objectInit, .code objectInit ⟨#[0xb1]⟩ 1 none])
def wsX0_init : List Cond := .code yX0_init cX0_init 1 none :: ([.methodLink RX0 3 objectInit, .instanceMethod objectInit, .code objectInit ⟨#[0xb1]⟩ 1 none, .arrayClass .long, .fieldLink RX0 9 "LowPowerCpu$Memory" "cells" "[J", .classLink RX0 15 RX1, .instantiable RX1 6, .initialized RX1, .fieldLink RX0 18 "LowPowerCpu$Memory" "multiplier" "LLowPowerCpu$Multiplier;", .instanceMethod yX1_init, .code yX1_init cX1_init 1 none, .methodLink RX1 1 objectInit] ++ wsX00 ++ wsX10)
def wsX0_isMultiplier : List Cond := .code yX0_isMultiplier cX0_isMultiplier 1 (some .boolean) :: ([.constant RX0 22 (65520)])
def wsX0_slotOf : List Cond := .code yX0_slotOf cX0_slotOf 1 (some .int) :: ([])
def wsX1_wordAtSlot : List Cond := .code yX1_wordAtSlot cX1_wordAtSlot 2 (some .int) :: ([.fieldLink RX1 13 "LowPowerCpu$Multiplier" "two" "I", .fieldLink RX1 16 "LowPowerCpu$Multiplier" "low" "I", .fieldLink RX1 19 "LowPowerCpu$Multiplier" "high" "I", .fieldLink RX1 22 "LowPowerCpu$Multiplier" "extra" "I", .fieldLink RX1 7 "LowPowerCpu$Multiplier" "one" "I"] ++ wsX10)
def wsX0_cellOf : List Cond := .code yX0_cellOf cX0_cellOf 1 (some .int) :: ([.constant RX0 37 (65535)])
def wsX0_wordAt : List Cond := .code yX0_wordAt cX0_wordAt 2 (some .int) :: ([.fieldLink RX0 18 "LowPowerCpu$Memory" "multiplier" "LLowPowerCpu$Multiplier;", .fieldLink RX0 9 "LowPowerCpu$Memory" "cells" "[J", .constant RX0 37 (65535), .methodLink RX0 23 yX0_isMultiplier, .static yX0_isMultiplier, .initialized RX0, .code yX0_isMultiplier cX0_isMultiplier 1 (some .boolean), .constant RX0 22 (65520), .methodLink RX0 27 yX0_slotOf, .static yX0_slotOf, .code yX0_slotOf cX0_slotOf 1 (some .int), .instanceMethod yX1_wordAtSlot, .initialized RX1, .selects RX1 yX1_wordAtSlot yX1_wordAtSlot, .code yX1_wordAtSlot cX1_wordAtSlot 2 (some .int), .fieldLink RX1 13 "LowPowerCpu$Multiplier" "two" "I", .fieldLink RX1 16 "LowPowerCpu$Multiplier" "low" "I", .fieldLink RX1 19 "LowPowerCpu$Multiplier" "high" "I", .fieldLink RX1 22 "LowPowerCpu$Multiplier" "extra" "I", .fieldLink RX1 7 "LowPowerCpu$Multiplier" "one" "I", .methodLink RX0 34 yX0_cellOf, .static yX0_cellOf, .code yX0_cellOf cX0_cellOf 1 (some .int)] ++ wsX00 ++ wsX10)
def wsX0_byteAt_r1 : List Cond := [Cond.methodLink RX0 38 yX0_wordAt, Cond.instanceMethod yX0_wordAt, Cond.selects RX0 yX0_wordAt yX0_wordAt, Cond.initialized RX0, Cond.code yX0_wordAt cX0_wordAt 2 (some .int), Cond.fieldLink RX0 18 "LowPowerCpu$Memory" "multiplier" "LLowPowerCpu$Multiplier;", Cond.fieldLink RX0 9 "LowPowerCpu$Memory" "cells" "[J", Cond.constant RX0 37 (65535), Cond.methodLink RX0 23 yX0_isMultiplier, Cond.static yX0_isMultiplier, Cond.code yX0_isMultiplier cX0_isMultiplier 1 (some .boolean), Cond.constant RX0 22 (65520), Cond.methodLink RX0 27 yX0_slotOf, Cond.static yX0_slotOf, Cond.code yX0_slotOf cX0_slotOf 1 (some .int), Cond.instanceMethod yX1_wordAtSlot, Cond.initialized RX1, Cond.selects RX1 yX1_wordAtSlot yX1_wordAtSlot, Cond.code yX1_wordAtSlot cX1_wordAtSlot 2 (some .int), Cond.fieldLink RX1 13 "LowPowerCpu$Multiplier" "two" "I", Cond.fieldLink RX1 16 "LowPowerCpu$Multiplier" "low" "I", Cond.fieldLink RX1 19 "LowPowerCpu$Multiplier" "high" "I", Cond.fieldLink RX1 22 "LowPowerCpu$Multiplier" "extra" "I", Cond.fieldLink RX1 7 "LowPowerCpu$Multiplier" "one" "I"]
def wsX0_byteAt_r2 : List Cond := [Cond.methodLink RX0 34 yX0_cellOf, Cond.static yX0_cellOf, Cond.code yX0_cellOf cX0_cellOf 1 (some .int)]
def wsX0_byteAt : List Cond := .code yX0_byteAt cX0_byteAt 3 (some .int) :: ((wsX0_byteAt_r1 ++ wsX0_byteAt_r2) ++ wsX00 ++ wsX10)
def wsX1_placeWordAtSlot : List Cond := .code yX1_placeWordAtSlot cX1_placeWordAtSlot 3 none :: ([.fieldLink RX1 13 "LowPowerCpu$Multiplier" "two" "I", .fieldLink RX1 16 "LowPowerCpu$Multiplier" "low" "I", .fieldLink RX1 19 "LowPowerCpu$Multiplier" "high" "I", .fieldLink RX1 22 "LowPowerCpu$Multiplier" "extra" "I", .fieldLink RX1 7 "LowPowerCpu$Multiplier" "one" "I"] ++ wsX10)
def wsX1_multiply : List Cond := .code yX1_multiply cX1_multiply 9 none :: ([.fieldLink RX1 25 "LowPowerCpu$Multiplier" "way" "I", .fieldLink RX1 7 "LowPowerCpu$Multiplier" "one" "I", .fieldLink RX1 13 "LowPowerCpu$Multiplier" "two" "I", .fieldLink RX1 19 "LowPowerCpu$Multiplier" "high" "I", .fieldLink RX1 16 "LowPowerCpu$Multiplier" "low" "I", .constant RX1 35 (65535), .constant RX1 36 (32768), .fieldLink RX1 22 "LowPowerCpu$Multiplier" "extra" "I", .constantLong RX1 37 (4294967295)] ++ wsX10)
def wsX1_write : List Cond := .code yX1_write cX1_write 3 none :: ([.fieldLink RX1 25 "LowPowerCpu$Multiplier" "way" "I", .methodLink RX1 28 yX1_placeWordAtSlot, .instanceMethod yX1_placeWordAtSlot, .selects RX1 yX1_placeWordAtSlot yX1_placeWordAtSlot, .initialized RX1, .code yX1_placeWordAtSlot cX1_placeWordAtSlot 3 none, .fieldLink RX1 13 "LowPowerCpu$Multiplier" "two" "I", .fieldLink RX1 16 "LowPowerCpu$Multiplier" "low" "I", .fieldLink RX1 19 "LowPowerCpu$Multiplier" "high" "I", .fieldLink RX1 22 "LowPowerCpu$Multiplier" "extra" "I", .fieldLink RX1 7 "LowPowerCpu$Multiplier" "one" "I", .methodLink RX1 32 yX1_multiply, .instanceMethod yX1_multiply, .selects RX1 yX1_multiply yX1_multiply, .code yX1_multiply cX1_multiply 9 none, .constant RX1 35 (65535), .constant RX1 36 (32768), .constantLong RX1 37 (4294967295)] ++ wsX10)
def wsX0_placeWord : List Cond := .code yX0_placeWord cX0_placeWord 5 none :: ([.fieldLink RX0 9 "LowPowerCpu$Memory" "cells" "[J", .constantLong RX0 55 (65535), .constantLong RX0 57 (-1), .methodLink RX0 34 yX0_cellOf, .static yX0_cellOf, .initialized RX0, .code yX0_cellOf cX0_cellOf 1 (some .int), .constant RX0 37 (65535)] ++ wsX00)
def wsX0_writeWord_r1 : List Cond := [Cond.fieldLink RX0 18 "LowPowerCpu$Memory" "multiplier" "LLowPowerCpu$Multiplier;", Cond.methodLink RX0 23 yX0_isMultiplier, Cond.static yX0_isMultiplier, Cond.initialized RX0, Cond.code yX0_isMultiplier cX0_isMultiplier 1 (some .boolean), Cond.constant RX0 22 (65520), Cond.methodLink RX0 27 yX0_slotOf, Cond.static yX0_slotOf, Cond.code yX0_slotOf cX0_slotOf 1 (some .int), Cond.instanceMethod yX1_write, Cond.initialized RX1, Cond.selects RX1 yX1_write yX1_write, Cond.code yX1_write cX1_write 3 none, Cond.fieldLink RX1 25 "LowPowerCpu$Multiplier" "way" "I", Cond.methodLink RX1 28 yX1_placeWordAtSlot, Cond.instanceMethod yX1_placeWordAtSlot, Cond.selects RX1 yX1_placeWordAtSlot yX1_placeWordAtSlot, Cond.code yX1_placeWordAtSlot cX1_placeWordAtSlot 3 none, Cond.fieldLink RX1 13 "LowPowerCpu$Multiplier" "two" "I", Cond.fieldLink RX1 16 "LowPowerCpu$Multiplier" "low" "I", Cond.fieldLink RX1 19 "LowPowerCpu$Multiplier" "high" "I", Cond.fieldLink RX1 22 "LowPowerCpu$Multiplier" "extra" "I", Cond.fieldLink RX1 7 "LowPowerCpu$Multiplier" "one" "I", Cond.methodLink RX1 32 yX1_multiply]
def wsX0_writeWord_r2 : List Cond := [Cond.instanceMethod yX1_multiply, Cond.selects RX1 yX1_multiply yX1_multiply, Cond.code yX1_multiply cX1_multiply 9 none, Cond.constant RX1 35 (65535), Cond.constant RX1 36 (32768), Cond.constantLong RX1 37 (4294967295), Cond.methodLink RX0 45 yX0_placeWord, Cond.instanceMethod yX0_placeWord, Cond.selects RX0 yX0_placeWord yX0_placeWord, Cond.code yX0_placeWord cX0_placeWord 5 none, Cond.fieldLink RX0 9 "LowPowerCpu$Memory" "cells" "[J", Cond.constantLong RX0 55 (65535), Cond.constantLong RX0 57 (-1), Cond.methodLink RX0 34 yX0_cellOf, Cond.static yX0_cellOf, Cond.code yX0_cellOf cX0_cellOf 1 (some .int), Cond.constant RX0 37 (65535)]
def wsX0_writeWord : List Cond := .code yX0_writeWord cX0_writeWord 3 none :: ((wsX0_writeWord_r1 ++ wsX0_writeWord_r2) ++ wsX00 ++ wsX10)
def wsX0_placeByte_r1 : List Cond := [Cond.constant RX0 51 (65280), Cond.fieldLink RX0 18 "LowPowerCpu$Memory" "multiplier" "LLowPowerCpu$Multiplier;", Cond.methodLink RX0 38 yX0_wordAt, Cond.instanceMethod yX0_wordAt, Cond.selects RX0 yX0_wordAt yX0_wordAt, Cond.initialized RX0, Cond.code yX0_wordAt cX0_wordAt 2 (some .int), Cond.fieldLink RX0 9 "LowPowerCpu$Memory" "cells" "[J", Cond.constant RX0 37 (65535), Cond.methodLink RX0 23 yX0_isMultiplier, Cond.static yX0_isMultiplier, Cond.code yX0_isMultiplier cX0_isMultiplier 1 (some .boolean), Cond.constant RX0 22 (65520), Cond.methodLink RX0 27 yX0_slotOf, Cond.static yX0_slotOf, Cond.code yX0_slotOf cX0_slotOf 1 (some .int), Cond.instanceMethod yX1_wordAtSlot, Cond.initialized RX1, Cond.selects RX1 yX1_wordAtSlot yX1_wordAtSlot, Cond.code yX1_wordAtSlot cX1_wordAtSlot 2 (some .int), Cond.fieldLink RX1 13 "LowPowerCpu$Multiplier" "two" "I", Cond.fieldLink RX1 16 "LowPowerCpu$Multiplier" "low" "I", Cond.fieldLink RX1 19 "LowPowerCpu$Multiplier" "high" "I", Cond.fieldLink RX1 22 "LowPowerCpu$Multiplier" "extra" "I"]
def wsX0_placeByte_r2 : List Cond := [Cond.fieldLink RX1 7 "LowPowerCpu$Multiplier" "one" "I", Cond.methodLink RX0 34 yX0_cellOf, Cond.static yX0_cellOf, Cond.code yX0_cellOf cX0_cellOf 1 (some .int), Cond.instanceMethod yX1_placeWordAtSlot, Cond.selects RX1 yX1_placeWordAtSlot yX1_placeWordAtSlot, Cond.code yX1_placeWordAtSlot cX1_placeWordAtSlot 3 none, Cond.methodLink RX0 45 yX0_placeWord, Cond.instanceMethod yX0_placeWord, Cond.selects RX0 yX0_placeWord yX0_placeWord, Cond.code yX0_placeWord cX0_placeWord 5 none, Cond.constantLong RX0 55 (65535), Cond.constantLong RX0 57 (-1)]
def wsX0_placeByte : List Cond := .code yX0_placeByte cX0_placeByte 5 none :: ((wsX0_placeByte_r1 ++ wsX0_placeByte_r2) ++ wsX00 ++ wsX10)
def wsX0_writeByte_r1 : List Cond := [Cond.fieldLink RX0 18 "LowPowerCpu$Memory" "multiplier" "LLowPowerCpu$Multiplier;", Cond.methodLink RX0 23 yX0_isMultiplier, Cond.static yX0_isMultiplier, Cond.initialized RX0, Cond.code yX0_isMultiplier cX0_isMultiplier 1 (some .boolean), Cond.constant RX0 22 (65520), Cond.methodLink RX0 48 yX0_placeByte, Cond.instanceMethod yX0_placeByte, Cond.selects RX0 yX0_placeByte yX0_placeByte, Cond.code yX0_placeByte cX0_placeByte 5 none, Cond.constant RX0 51 (65280), Cond.methodLink RX0 38 yX0_wordAt, Cond.instanceMethod yX0_wordAt, Cond.selects RX0 yX0_wordAt yX0_wordAt, Cond.code yX0_wordAt cX0_wordAt 2 (some .int), Cond.fieldLink RX0 9 "LowPowerCpu$Memory" "cells" "[J", Cond.constant RX0 37 (65535), Cond.methodLink RX0 27 yX0_slotOf, Cond.static yX0_slotOf, Cond.code yX0_slotOf cX0_slotOf 1 (some .int), Cond.instanceMethod yX1_wordAtSlot, Cond.initialized RX1, Cond.selects RX1 yX1_wordAtSlot yX1_wordAtSlot, Cond.code yX1_wordAtSlot cX1_wordAtSlot 2 (some .int)]
def wsX0_writeByte_r2 : List Cond := [Cond.fieldLink RX1 13 "LowPowerCpu$Multiplier" "two" "I", Cond.fieldLink RX1 16 "LowPowerCpu$Multiplier" "low" "I", Cond.fieldLink RX1 19 "LowPowerCpu$Multiplier" "high" "I", Cond.fieldLink RX1 22 "LowPowerCpu$Multiplier" "extra" "I", Cond.fieldLink RX1 7 "LowPowerCpu$Multiplier" "one" "I", Cond.methodLink RX0 34 yX0_cellOf, Cond.static yX0_cellOf, Cond.code yX0_cellOf cX0_cellOf 1 (some .int), Cond.instanceMethod yX1_placeWordAtSlot, Cond.selects RX1 yX1_placeWordAtSlot yX1_placeWordAtSlot, Cond.code yX1_placeWordAtSlot cX1_placeWordAtSlot 3 none, Cond.methodLink RX0 45 yX0_placeWord, Cond.instanceMethod yX0_placeWord, Cond.selects RX0 yX0_placeWord yX0_placeWord, Cond.code yX0_placeWord cX0_placeWord 5 none, Cond.constantLong RX0 55 (65535), Cond.constantLong RX0 57 (-1), Cond.instanceMethod yX1_write, Cond.selects RX1 yX1_write yX1_write, Cond.code yX1_write cX1_write 3 none, Cond.fieldLink RX1 25 "LowPowerCpu$Multiplier" "way" "I", Cond.methodLink RX1 28 yX1_placeWordAtSlot, Cond.methodLink RX1 32 yX1_multiply, Cond.instanceMethod yX1_multiply]
def wsX0_writeByte_r3 : List Cond := [Cond.selects RX1 yX1_multiply yX1_multiply, Cond.code yX1_multiply cX1_multiply 9 none, Cond.constant RX1 35 (65535), Cond.constant RX1 36 (32768), Cond.constantLong RX1 37 (4294967295)]
def wsX0_writeByte : List Cond := .code yX0_writeByte cX0_writeByte 3 none :: ((wsX0_writeByte_r1 ++ (wsX0_writeByte_r2 ++ wsX0_writeByte_r3)) ++ wsX00 ++ wsX10)
def wsX1_clear : List Cond := .code yX1_clear cX1_clear 1 none :: ([.fieldLink RX1 7 "LowPowerCpu$Multiplier" "one" "I", .fieldLink RX1 13 "LowPowerCpu$Multiplier" "two" "I", .fieldLink RX1 16 "LowPowerCpu$Multiplier" "low" "I", .fieldLink RX1 19 "LowPowerCpu$Multiplier" "high" "I", .fieldLink RX1 22 "LowPowerCpu$Multiplier" "extra" "I", .fieldLink RX1 25 "LowPowerCpu$Multiplier" "way" "I"] ++ wsX10)
def wsX2_setRegister : List Cond := .code yX2_setRegister cX2_setRegister 3 none :: ([.fieldLink RX2 16 "LowPowerCpu" "registers" "[I", .constant RX2 39 (65534), .constant RX2 149 (65535)] ++ wsX20)
def wsX2_init__r1 : List Cond := [Cond.fieldLink RX2 16 "LowPowerCpu" "registers" "[I", Cond.fieldLink RX2 23 "LowPowerCpu" "pendingLines" "I", Cond.fieldLink RX2 27 "LowPowerCpu" "cycles" "I", Cond.fieldLink RX2 12 "LowPowerCpu" "memory" "LLowPowerCpu$Memory;", Cond.constant RX2 39 (65534), Cond.instanceMethod yX1_clear, Cond.initialized RX1, Cond.selects RX1 yX1_clear yX1_clear, Cond.code yX1_clear cX1_clear 1 none, Cond.fieldLink RX1 7 "LowPowerCpu$Multiplier" "one" "I", Cond.fieldLink RX1 13 "LowPowerCpu$Multiplier" "two" "I", Cond.fieldLink RX1 16 "LowPowerCpu$Multiplier" "low" "I", Cond.fieldLink RX1 19 "LowPowerCpu$Multiplier" "high" "I", Cond.fieldLink RX1 22 "LowPowerCpu$Multiplier" "extra" "I", Cond.fieldLink RX1 25 "LowPowerCpu$Multiplier" "way" "I", Cond.instanceMethod yX0_wordAt, Cond.initialized RX0, Cond.selects RX0 yX0_wordAt yX0_wordAt, Cond.code yX0_wordAt cX0_wordAt 2 (some .int), Cond.fieldLink RX0 18 "LowPowerCpu$Memory" "multiplier" "LLowPowerCpu$Multiplier;", Cond.fieldLink RX0 9 "LowPowerCpu$Memory" "cells" "[J", Cond.constant RX0 37 (65535), Cond.methodLink RX0 23 yX0_isMultiplier, Cond.static yX0_isMultiplier]
def wsX2_init__r2 : List Cond := [Cond.code yX0_isMultiplier cX0_isMultiplier 1 (some .boolean), Cond.constant RX0 22 (65520), Cond.methodLink RX0 27 yX0_slotOf, Cond.static yX0_slotOf, Cond.code yX0_slotOf cX0_slotOf 1 (some .int), Cond.instanceMethod yX1_wordAtSlot, Cond.selects RX1 yX1_wordAtSlot yX1_wordAtSlot, Cond.code yX1_wordAtSlot cX1_wordAtSlot 2 (some .int), Cond.methodLink RX0 34 yX0_cellOf, Cond.static yX0_cellOf, Cond.code yX0_cellOf cX0_cellOf 1 (some .int), Cond.methodLink RX2 44 yX2_setRegister, Cond.instanceMethod yX2_setRegister, Cond.selects RX2 yX2_setRegister yX2_setRegister, Cond.initialized RX2, Cond.code yX2_setRegister cX2_setRegister 3 none, Cond.constant RX2 149 (65535)]
def wsX2_init_ : List Cond := .code yX2_init_ cX2_init_ 2 none :: ((wsX2_init__r1 ++ wsX2_init__r2) ++ wsX20 ++ wsX00 ++ wsX10)
def wsX2_init_r1 : List Cond := [Cond.methodLink RX2 3 objectInit, Cond.instanceMethod objectInit, Cond.code objectInit ⟨#[0xb1]⟩ 1 none, Cond.classLink RX2 9 RX0, Cond.instantiable RX0 2, Cond.initialized RX0, Cond.fieldLink RX2 12 "LowPowerCpu" "memory" "LLowPowerCpu$Memory;", Cond.arrayClass .int, Cond.fieldLink RX2 16 "LowPowerCpu" "registers" "[I", Cond.instanceMethod yX0_init, Cond.code yX0_init cX0_init 1 none, Cond.methodLink RX0 3 objectInit, Cond.arrayClass .long, Cond.fieldLink RX0 9 "LowPowerCpu$Memory" "cells" "[J", Cond.classLink RX0 15 RX1, Cond.instantiable RX1 6, Cond.initialized RX1, Cond.fieldLink RX0 18 "LowPowerCpu$Memory" "multiplier" "LLowPowerCpu$Multiplier;", Cond.instanceMethod yX1_init, Cond.code yX1_init cX1_init 1 none, Cond.methodLink RX1 1 objectInit, Cond.methodLink RX2 20 yX2_init_, Cond.instanceMethod yX2_init_, Cond.selects RX2 yX2_init_ yX2_init_]
def wsX2_init_r2 : List Cond := [Cond.initialized RX2, Cond.code yX2_init_ cX2_init_ 2 none, Cond.fieldLink RX2 23 "LowPowerCpu" "pendingLines" "I", Cond.fieldLink RX2 27 "LowPowerCpu" "cycles" "I", Cond.constant RX2 39 (65534), Cond.instanceMethod yX1_clear, Cond.selects RX1 yX1_clear yX1_clear, Cond.code yX1_clear cX1_clear 1 none, Cond.fieldLink RX1 7 "LowPowerCpu$Multiplier" "one" "I", Cond.fieldLink RX1 13 "LowPowerCpu$Multiplier" "two" "I", Cond.fieldLink RX1 16 "LowPowerCpu$Multiplier" "low" "I", Cond.fieldLink RX1 19 "LowPowerCpu$Multiplier" "high" "I", Cond.fieldLink RX1 22 "LowPowerCpu$Multiplier" "extra" "I", Cond.fieldLink RX1 25 "LowPowerCpu$Multiplier" "way" "I", Cond.instanceMethod yX0_wordAt, Cond.selects RX0 yX0_wordAt yX0_wordAt, Cond.code yX0_wordAt cX0_wordAt 2 (some .int), Cond.constant RX0 37 (65535), Cond.methodLink RX0 23 yX0_isMultiplier, Cond.static yX0_isMultiplier, Cond.code yX0_isMultiplier cX0_isMultiplier 1 (some .boolean), Cond.constant RX0 22 (65520), Cond.methodLink RX0 27 yX0_slotOf, Cond.static yX0_slotOf]
def wsX2_init_r3 : List Cond := [Cond.code yX0_slotOf cX0_slotOf 1 (some .int), Cond.instanceMethod yX1_wordAtSlot, Cond.selects RX1 yX1_wordAtSlot yX1_wordAtSlot, Cond.code yX1_wordAtSlot cX1_wordAtSlot 2 (some .int), Cond.methodLink RX0 34 yX0_cellOf, Cond.static yX0_cellOf, Cond.code yX0_cellOf cX0_cellOf 1 (some .int), Cond.methodLink RX2 44 yX2_setRegister, Cond.instanceMethod yX2_setRegister, Cond.selects RX2 yX2_setRegister yX2_setRegister, Cond.code yX2_setRegister cX2_setRegister 3 none, Cond.constant RX2 149 (65535)]
def wsX2_init : List Cond := .code yX2_init cX2_init 1 none :: ((wsX2_init_r1 ++ (wsX2_init_r2 ++ wsX2_init_r3)) ++ wsX00 ++ wsX20 ++ wsX10)
def wsX2_poke_r1 : List Cond := [Cond.constant RX2 48 (65536), Cond.fieldLink RX2 12 "LowPowerCpu" "memory" "LLowPowerCpu$Memory;", Cond.instanceMethod yX0_placeByte, Cond.initialized RX0, Cond.selects RX0 yX0_placeByte yX0_placeByte, Cond.code yX0_placeByte cX0_placeByte 5 none, Cond.constant RX0 51 (65280), Cond.fieldLink RX0 18 "LowPowerCpu$Memory" "multiplier" "LLowPowerCpu$Multiplier;", Cond.methodLink RX0 38 yX0_wordAt, Cond.instanceMethod yX0_wordAt, Cond.selects RX0 yX0_wordAt yX0_wordAt, Cond.code yX0_wordAt cX0_wordAt 2 (some .int), Cond.fieldLink RX0 9 "LowPowerCpu$Memory" "cells" "[J", Cond.constant RX0 37 (65535), Cond.methodLink RX0 23 yX0_isMultiplier, Cond.static yX0_isMultiplier, Cond.code yX0_isMultiplier cX0_isMultiplier 1 (some .boolean), Cond.constant RX0 22 (65520), Cond.methodLink RX0 27 yX0_slotOf, Cond.static yX0_slotOf, Cond.code yX0_slotOf cX0_slotOf 1 (some .int), Cond.instanceMethod yX1_wordAtSlot, Cond.initialized RX1, Cond.selects RX1 yX1_wordAtSlot yX1_wordAtSlot]
def wsX2_poke_r2 : List Cond := [Cond.code yX1_wordAtSlot cX1_wordAtSlot 2 (some .int), Cond.fieldLink RX1 13 "LowPowerCpu$Multiplier" "two" "I", Cond.fieldLink RX1 16 "LowPowerCpu$Multiplier" "low" "I", Cond.fieldLink RX1 19 "LowPowerCpu$Multiplier" "high" "I", Cond.fieldLink RX1 22 "LowPowerCpu$Multiplier" "extra" "I", Cond.fieldLink RX1 7 "LowPowerCpu$Multiplier" "one" "I", Cond.methodLink RX0 34 yX0_cellOf, Cond.static yX0_cellOf, Cond.code yX0_cellOf cX0_cellOf 1 (some .int), Cond.instanceMethod yX1_placeWordAtSlot, Cond.selects RX1 yX1_placeWordAtSlot yX1_placeWordAtSlot, Cond.code yX1_placeWordAtSlot cX1_placeWordAtSlot 3 none, Cond.methodLink RX0 45 yX0_placeWord, Cond.instanceMethod yX0_placeWord, Cond.selects RX0 yX0_placeWord yX0_placeWord, Cond.code yX0_placeWord cX0_placeWord 5 none, Cond.constantLong RX0 55 (65535), Cond.constantLong RX0 57 (-1)]
def wsX2_poke : List Cond := .code yX2_poke cX2_poke 3 (some .boolean) :: ((wsX2_poke_r1 ++ wsX2_poke_r2) ++ wsX20 ++ wsX00 ++ wsX10)
def wsX2_peek_r1 : List Cond := [Cond.constant RX2 48 (65536), Cond.fieldLink RX2 12 "LowPowerCpu" "memory" "LLowPowerCpu$Memory;", Cond.instanceMethod yX0_byteAt, Cond.initialized RX0, Cond.selects RX0 yX0_byteAt yX0_byteAt, Cond.code yX0_byteAt cX0_byteAt 3 (some .int), Cond.methodLink RX0 38 yX0_wordAt, Cond.instanceMethod yX0_wordAt, Cond.selects RX0 yX0_wordAt yX0_wordAt, Cond.code yX0_wordAt cX0_wordAt 2 (some .int), Cond.fieldLink RX0 18 "LowPowerCpu$Memory" "multiplier" "LLowPowerCpu$Multiplier;", Cond.fieldLink RX0 9 "LowPowerCpu$Memory" "cells" "[J", Cond.constant RX0 37 (65535), Cond.methodLink RX0 23 yX0_isMultiplier, Cond.static yX0_isMultiplier, Cond.code yX0_isMultiplier cX0_isMultiplier 1 (some .boolean), Cond.constant RX0 22 (65520), Cond.methodLink RX0 27 yX0_slotOf, Cond.static yX0_slotOf, Cond.code yX0_slotOf cX0_slotOf 1 (some .int), Cond.instanceMethod yX1_wordAtSlot, Cond.initialized RX1, Cond.selects RX1 yX1_wordAtSlot yX1_wordAtSlot, Cond.code yX1_wordAtSlot cX1_wordAtSlot 2 (some .int)]
def wsX2_peek_r2 : List Cond := [Cond.fieldLink RX1 13 "LowPowerCpu$Multiplier" "two" "I", Cond.fieldLink RX1 16 "LowPowerCpu$Multiplier" "low" "I", Cond.fieldLink RX1 19 "LowPowerCpu$Multiplier" "high" "I", Cond.fieldLink RX1 22 "LowPowerCpu$Multiplier" "extra" "I", Cond.fieldLink RX1 7 "LowPowerCpu$Multiplier" "one" "I", Cond.methodLink RX0 34 yX0_cellOf, Cond.static yX0_cellOf, Cond.code yX0_cellOf cX0_cellOf 1 (some .int)]
def wsX2_peek : List Cond := .code yX2_peek cX2_peek 2 (some .int) :: ((wsX2_peek_r1 ++ wsX2_peek_r2) ++ wsX20 ++ wsX00 ++ wsX10)
def wsX2_highestPendingLine : List Cond := .code yX2_highestPendingLine cX2_highestPendingLine 2 (some .int) :: ([.fieldLink RX2 23 "LowPowerCpu" "pendingLines" "I"] ++ wsX20)
def wsX2_addToRegister : List Cond := .code yX2_addToRegister cX2_addToRegister 3 none :: ([.fieldLink RX2 16 "LowPowerCpu" "registers" "[I", .methodLink RX2 44 yX2_setRegister, .instanceMethod yX2_setRegister, .selects RX2 yX2_setRegister yX2_setRegister, .initialized RX2, .code yX2_setRegister cX2_setRegister 3 none, .constant RX2 39 (65534), .constant RX2 149 (65535)] ++ wsX20)
def wsX2_push_r1 : List Cond := [Cond.fieldLink RX2 12 "LowPowerCpu" "memory" "LLowPowerCpu$Memory;", Cond.fieldLink RX2 16 "LowPowerCpu" "registers" "[I", Cond.methodLink RX2 62 yX2_addToRegister, Cond.instanceMethod yX2_addToRegister, Cond.selects RX2 yX2_addToRegister yX2_addToRegister, Cond.initialized RX2, Cond.code yX2_addToRegister cX2_addToRegister 3 none, Cond.methodLink RX2 44 yX2_setRegister, Cond.instanceMethod yX2_setRegister, Cond.selects RX2 yX2_setRegister yX2_setRegister, Cond.code yX2_setRegister cX2_setRegister 3 none, Cond.constant RX2 39 (65534), Cond.constant RX2 149 (65535), Cond.instanceMethod yX0_writeByte, Cond.initialized RX0, Cond.selects RX0 yX0_writeByte yX0_writeByte, Cond.code yX0_writeByte cX0_writeByte 3 none, Cond.fieldLink RX0 18 "LowPowerCpu$Memory" "multiplier" "LLowPowerCpu$Multiplier;", Cond.methodLink RX0 23 yX0_isMultiplier, Cond.static yX0_isMultiplier, Cond.code yX0_isMultiplier cX0_isMultiplier 1 (some .boolean), Cond.constant RX0 22 (65520), Cond.methodLink RX0 48 yX0_placeByte, Cond.instanceMethod yX0_placeByte]
def wsX2_push_r2 : List Cond := [Cond.selects RX0 yX0_placeByte yX0_placeByte, Cond.code yX0_placeByte cX0_placeByte 5 none, Cond.constant RX0 51 (65280), Cond.methodLink RX0 38 yX0_wordAt, Cond.instanceMethod yX0_wordAt, Cond.selects RX0 yX0_wordAt yX0_wordAt, Cond.code yX0_wordAt cX0_wordAt 2 (some .int), Cond.fieldLink RX0 9 "LowPowerCpu$Memory" "cells" "[J", Cond.constant RX0 37 (65535), Cond.methodLink RX0 27 yX0_slotOf, Cond.static yX0_slotOf, Cond.code yX0_slotOf cX0_slotOf 1 (some .int), Cond.instanceMethod yX1_wordAtSlot, Cond.initialized RX1, Cond.selects RX1 yX1_wordAtSlot yX1_wordAtSlot, Cond.code yX1_wordAtSlot cX1_wordAtSlot 2 (some .int), Cond.fieldLink RX1 13 "LowPowerCpu$Multiplier" "two" "I", Cond.fieldLink RX1 16 "LowPowerCpu$Multiplier" "low" "I", Cond.fieldLink RX1 19 "LowPowerCpu$Multiplier" "high" "I", Cond.fieldLink RX1 22 "LowPowerCpu$Multiplier" "extra" "I", Cond.fieldLink RX1 7 "LowPowerCpu$Multiplier" "one" "I", Cond.methodLink RX0 34 yX0_cellOf, Cond.static yX0_cellOf, Cond.code yX0_cellOf cX0_cellOf 1 (some .int)]
def wsX2_push_r3 : List Cond := [Cond.instanceMethod yX1_placeWordAtSlot, Cond.selects RX1 yX1_placeWordAtSlot yX1_placeWordAtSlot, Cond.code yX1_placeWordAtSlot cX1_placeWordAtSlot 3 none, Cond.methodLink RX0 45 yX0_placeWord, Cond.instanceMethod yX0_placeWord, Cond.selects RX0 yX0_placeWord yX0_placeWord, Cond.code yX0_placeWord cX0_placeWord 5 none, Cond.constantLong RX0 55 (65535), Cond.constantLong RX0 57 (-1), Cond.instanceMethod yX1_write, Cond.selects RX1 yX1_write yX1_write, Cond.code yX1_write cX1_write 3 none, Cond.fieldLink RX1 25 "LowPowerCpu$Multiplier" "way" "I", Cond.methodLink RX1 28 yX1_placeWordAtSlot, Cond.methodLink RX1 32 yX1_multiply, Cond.instanceMethod yX1_multiply, Cond.selects RX1 yX1_multiply yX1_multiply, Cond.code yX1_multiply cX1_multiply 9 none, Cond.constant RX1 35 (65535), Cond.constant RX1 36 (32768), Cond.constantLong RX1 37 (4294967295), Cond.instanceMethod yX0_writeWord, Cond.selects RX0 yX0_writeWord yX0_writeWord, Cond.code yX0_writeWord cX0_writeWord 3 none]
def wsX2_push : List Cond := .code yX2_push cX2_push 3 none :: ((wsX2_push_r1 ++ (wsX2_push_r2 ++ wsX2_push_r3)) ++ wsX20 ++ wsX00 ++ wsX10)
def wsX2_spend : List Cond := .code yX2_spend cX2_spend 2 none :: ([.fieldLink RX2 27 "LowPowerCpu" "cycles" "I", .constant RX2 194 (1073741823)] ++ wsX20)
def wsX2_interrupt_r1 : List Cond := [Cond.fieldLink RX2 16 "LowPowerCpu" "registers" "[I", Cond.fieldLink RX2 23 "LowPowerCpu" "pendingLines" "I", Cond.fieldLink RX2 12 "LowPowerCpu" "memory" "LLowPowerCpu$Memory;", Cond.constant RX2 92 (65504), Cond.methodLink RX2 85 yX2_highestPendingLine, Cond.instanceMethod yX2_highestPendingLine, Cond.selects RX2 yX2_highestPendingLine yX2_highestPendingLine, Cond.initialized RX2, Cond.code yX2_highestPendingLine cX2_highestPendingLine 2 (some .int), Cond.methodLink RX2 88 yX2_push, Cond.instanceMethod yX2_push, Cond.selects RX2 yX2_push yX2_push, Cond.code yX2_push cX2_push 3 none, Cond.methodLink RX2 62 yX2_addToRegister, Cond.instanceMethod yX2_addToRegister, Cond.selects RX2 yX2_addToRegister yX2_addToRegister, Cond.code yX2_addToRegister cX2_addToRegister 3 none, Cond.methodLink RX2 44 yX2_setRegister, Cond.instanceMethod yX2_setRegister, Cond.selects RX2 yX2_setRegister yX2_setRegister, Cond.code yX2_setRegister cX2_setRegister 3 none, Cond.constant RX2 39 (65534), Cond.constant RX2 149 (65535), Cond.instanceMethod yX0_writeByte]
def wsX2_interrupt_r2 : List Cond := [Cond.initialized RX0, Cond.selects RX0 yX0_writeByte yX0_writeByte, Cond.code yX0_writeByte cX0_writeByte 3 none, Cond.fieldLink RX0 18 "LowPowerCpu$Memory" "multiplier" "LLowPowerCpu$Multiplier;", Cond.methodLink RX0 23 yX0_isMultiplier, Cond.static yX0_isMultiplier, Cond.code yX0_isMultiplier cX0_isMultiplier 1 (some .boolean), Cond.constant RX0 22 (65520), Cond.methodLink RX0 48 yX0_placeByte, Cond.instanceMethod yX0_placeByte, Cond.selects RX0 yX0_placeByte yX0_placeByte, Cond.code yX0_placeByte cX0_placeByte 5 none, Cond.constant RX0 51 (65280), Cond.methodLink RX0 38 yX0_wordAt, Cond.instanceMethod yX0_wordAt, Cond.selects RX0 yX0_wordAt yX0_wordAt, Cond.code yX0_wordAt cX0_wordAt 2 (some .int), Cond.fieldLink RX0 9 "LowPowerCpu$Memory" "cells" "[J", Cond.constant RX0 37 (65535), Cond.methodLink RX0 27 yX0_slotOf, Cond.static yX0_slotOf, Cond.code yX0_slotOf cX0_slotOf 1 (some .int), Cond.instanceMethod yX1_wordAtSlot, Cond.initialized RX1]
def wsX2_interrupt_r3 : List Cond := [Cond.selects RX1 yX1_wordAtSlot yX1_wordAtSlot, Cond.code yX1_wordAtSlot cX1_wordAtSlot 2 (some .int), Cond.fieldLink RX1 13 "LowPowerCpu$Multiplier" "two" "I", Cond.fieldLink RX1 16 "LowPowerCpu$Multiplier" "low" "I", Cond.fieldLink RX1 19 "LowPowerCpu$Multiplier" "high" "I", Cond.fieldLink RX1 22 "LowPowerCpu$Multiplier" "extra" "I", Cond.fieldLink RX1 7 "LowPowerCpu$Multiplier" "one" "I", Cond.methodLink RX0 34 yX0_cellOf, Cond.static yX0_cellOf, Cond.code yX0_cellOf cX0_cellOf 1 (some .int), Cond.instanceMethod yX1_placeWordAtSlot, Cond.selects RX1 yX1_placeWordAtSlot yX1_placeWordAtSlot, Cond.code yX1_placeWordAtSlot cX1_placeWordAtSlot 3 none, Cond.methodLink RX0 45 yX0_placeWord, Cond.instanceMethod yX0_placeWord, Cond.selects RX0 yX0_placeWord yX0_placeWord, Cond.code yX0_placeWord cX0_placeWord 5 none, Cond.constantLong RX0 55 (65535), Cond.constantLong RX0 57 (-1), Cond.instanceMethod yX1_write, Cond.selects RX1 yX1_write yX1_write, Cond.code yX1_write cX1_write 3 none, Cond.fieldLink RX1 25 "LowPowerCpu$Multiplier" "way" "I", Cond.methodLink RX1 28 yX1_placeWordAtSlot]
def wsX2_interrupt_r4 : List Cond := [Cond.methodLink RX1 32 yX1_multiply, Cond.instanceMethod yX1_multiply, Cond.selects RX1 yX1_multiply yX1_multiply, Cond.code yX1_multiply cX1_multiply 9 none, Cond.constant RX1 35 (65535), Cond.constant RX1 36 (32768), Cond.constantLong RX1 37 (4294967295), Cond.instanceMethod yX0_writeWord, Cond.selects RX0 yX0_writeWord yX0_writeWord, Cond.code yX0_writeWord cX0_writeWord 3 none, Cond.methodLink RX2 93 yX2_spend, Cond.instanceMethod yX2_spend, Cond.selects RX2 yX2_spend yX2_spend, Cond.code yX2_spend cX2_spend 2 none, Cond.fieldLink RX2 27 "LowPowerCpu" "cycles" "I", Cond.constant RX2 194 (1073741823)]
def wsX2_interrupt : List Cond := .code yX2_interrupt cX2_interrupt 2 none :: ((wsX2_interrupt_r1 ++ (wsX2_interrupt_r2 ++ (wsX2_interrupt_r3 ++ wsX2_interrupt_r4))) ++ wsX20 ++ wsX00 ++ wsX10)
def wsX2_isUnassigned : List Cond := .code yX2_isUnassigned cX2_isUnassigned 3 (some .boolean) :: ([])
def wsX2_indexedPlace_r1 : List Cond := [Cond.fieldLink RX2 16 "LowPowerCpu" "registers" "[I", Cond.fieldLink RX2 12 "LowPowerCpu" "memory" "LLowPowerCpu$Memory;", Cond.constant RX2 149 (65535), Cond.instanceMethod yX0_wordAt, Cond.initialized RX0, Cond.selects RX0 yX0_wordAt yX0_wordAt, Cond.code yX0_wordAt cX0_wordAt 2 (some .int), Cond.fieldLink RX0 18 "LowPowerCpu$Memory" "multiplier" "LLowPowerCpu$Multiplier;", Cond.fieldLink RX0 9 "LowPowerCpu$Memory" "cells" "[J", Cond.constant RX0 37 (65535), Cond.methodLink RX0 23 yX0_isMultiplier, Cond.static yX0_isMultiplier, Cond.code yX0_isMultiplier cX0_isMultiplier 1 (some .boolean), Cond.constant RX0 22 (65520), Cond.methodLink RX0 27 yX0_slotOf, Cond.static yX0_slotOf, Cond.code yX0_slotOf cX0_slotOf 1 (some .int), Cond.instanceMethod yX1_wordAtSlot, Cond.initialized RX1, Cond.selects RX1 yX1_wordAtSlot yX1_wordAtSlot, Cond.code yX1_wordAtSlot cX1_wordAtSlot 2 (some .int), Cond.fieldLink RX1 13 "LowPowerCpu$Multiplier" "two" "I", Cond.fieldLink RX1 16 "LowPowerCpu$Multiplier" "low" "I", Cond.fieldLink RX1 19 "LowPowerCpu$Multiplier" "high" "I"]
def wsX2_indexedPlace_r2 : List Cond := [Cond.fieldLink RX1 22 "LowPowerCpu$Multiplier" "extra" "I", Cond.fieldLink RX1 7 "LowPowerCpu$Multiplier" "one" "I", Cond.methodLink RX0 34 yX0_cellOf, Cond.static yX0_cellOf, Cond.code yX0_cellOf cX0_cellOf 1 (some .int), Cond.methodLink RX2 62 yX2_addToRegister, Cond.instanceMethod yX2_addToRegister, Cond.selects RX2 yX2_addToRegister yX2_addToRegister, Cond.initialized RX2, Cond.code yX2_addToRegister cX2_addToRegister 3 none, Cond.methodLink RX2 44 yX2_setRegister, Cond.instanceMethod yX2_setRegister, Cond.selects RX2 yX2_setRegister yX2_setRegister, Cond.code yX2_setRegister cX2_setRegister 3 none, Cond.constant RX2 39 (65534)]
def wsX2_indexedPlace : List Cond := .code yX2_indexedPlace cX2_indexedPlace 4 (some .int) :: ((wsX2_indexedPlace_r1 ++ wsX2_indexedPlace_r2) ++ wsX20 ++ wsX00 ++ wsX10)
def wsX2_sourcePlace_r1 : List Cond := [Cond.constant RX2 148 (131072), Cond.constant RX2 149 (65535), Cond.constant RX2 48 (65536), Cond.fieldLink RX2 16 "LowPowerCpu" "registers" "[I", Cond.methodLink RX2 150 yX2_indexedPlace, Cond.instanceMethod yX2_indexedPlace, Cond.selects RX2 yX2_indexedPlace yX2_indexedPlace, Cond.initialized RX2, Cond.code yX2_indexedPlace cX2_indexedPlace 4 (some .int), Cond.fieldLink RX2 12 "LowPowerCpu" "memory" "LLowPowerCpu$Memory;", Cond.instanceMethod yX0_wordAt, Cond.initialized RX0, Cond.selects RX0 yX0_wordAt yX0_wordAt, Cond.code yX0_wordAt cX0_wordAt 2 (some .int), Cond.fieldLink RX0 18 "LowPowerCpu$Memory" "multiplier" "LLowPowerCpu$Multiplier;", Cond.fieldLink RX0 9 "LowPowerCpu$Memory" "cells" "[J", Cond.constant RX0 37 (65535), Cond.methodLink RX0 23 yX0_isMultiplier, Cond.static yX0_isMultiplier, Cond.code yX0_isMultiplier cX0_isMultiplier 1 (some .boolean), Cond.constant RX0 22 (65520), Cond.methodLink RX0 27 yX0_slotOf, Cond.static yX0_slotOf, Cond.code yX0_slotOf cX0_slotOf 1 (some .int)]
def wsX2_sourcePlace_r2 : List Cond := [Cond.instanceMethod yX1_wordAtSlot, Cond.initialized RX1, Cond.selects RX1 yX1_wordAtSlot yX1_wordAtSlot, Cond.code yX1_wordAtSlot cX1_wordAtSlot 2 (some .int), Cond.fieldLink RX1 13 "LowPowerCpu$Multiplier" "two" "I", Cond.fieldLink RX1 16 "LowPowerCpu$Multiplier" "low" "I", Cond.fieldLink RX1 19 "LowPowerCpu$Multiplier" "high" "I", Cond.fieldLink RX1 22 "LowPowerCpu$Multiplier" "extra" "I", Cond.fieldLink RX1 7 "LowPowerCpu$Multiplier" "one" "I", Cond.methodLink RX0 34 yX0_cellOf, Cond.static yX0_cellOf, Cond.code yX0_cellOf cX0_cellOf 1 (some .int), Cond.methodLink RX2 62 yX2_addToRegister, Cond.instanceMethod yX2_addToRegister, Cond.selects RX2 yX2_addToRegister yX2_addToRegister, Cond.code yX2_addToRegister cX2_addToRegister 3 none, Cond.methodLink RX2 44 yX2_setRegister, Cond.instanceMethod yX2_setRegister, Cond.selects RX2 yX2_setRegister yX2_setRegister, Cond.code yX2_setRegister cX2_setRegister 3 none, Cond.constant RX2 39 (65534)]
def wsX2_sourcePlace : List Cond := .code yX2_sourcePlace cX2_sourcePlace 6 (some .int) :: ((wsX2_sourcePlace_r1 ++ wsX2_sourcePlace_r2) ++ wsX20 ++ wsX00 ++ wsX10)
def wsX2_valueAt_r1 : List Cond := [Cond.constant RX2 48 (65536), Cond.fieldLink RX2 12 "LowPowerCpu" "memory" "LLowPowerCpu$Memory;", Cond.constant RX2 148 (131072), Cond.fieldLink RX2 16 "LowPowerCpu" "registers" "[I", Cond.instanceMethod yX0_byteAt, Cond.initialized RX0, Cond.selects RX0 yX0_byteAt yX0_byteAt, Cond.code yX0_byteAt cX0_byteAt 3 (some .int), Cond.methodLink RX0 38 yX0_wordAt, Cond.instanceMethod yX0_wordAt, Cond.selects RX0 yX0_wordAt yX0_wordAt, Cond.code yX0_wordAt cX0_wordAt 2 (some .int), Cond.fieldLink RX0 18 "LowPowerCpu$Memory" "multiplier" "LLowPowerCpu$Multiplier;", Cond.fieldLink RX0 9 "LowPowerCpu$Memory" "cells" "[J", Cond.constant RX0 37 (65535), Cond.methodLink RX0 23 yX0_isMultiplier, Cond.static yX0_isMultiplier, Cond.code yX0_isMultiplier cX0_isMultiplier 1 (some .boolean), Cond.constant RX0 22 (65520), Cond.methodLink RX0 27 yX0_slotOf, Cond.static yX0_slotOf, Cond.code yX0_slotOf cX0_slotOf 1 (some .int), Cond.instanceMethod yX1_wordAtSlot, Cond.initialized RX1]
def wsX2_valueAt_r2 : List Cond := [Cond.selects RX1 yX1_wordAtSlot yX1_wordAtSlot, Cond.code yX1_wordAtSlot cX1_wordAtSlot 2 (some .int), Cond.fieldLink RX1 13 "LowPowerCpu$Multiplier" "two" "I", Cond.fieldLink RX1 16 "LowPowerCpu$Multiplier" "low" "I", Cond.fieldLink RX1 19 "LowPowerCpu$Multiplier" "high" "I", Cond.fieldLink RX1 22 "LowPowerCpu$Multiplier" "extra" "I", Cond.fieldLink RX1 7 "LowPowerCpu$Multiplier" "one" "I", Cond.methodLink RX0 34 yX0_cellOf, Cond.static yX0_cellOf, Cond.code yX0_cellOf cX0_cellOf 1 (some .int)]
def wsX2_valueAt : List Cond := .code yX2_valueAt cX2_valueAt 4 (some .int) :: ((wsX2_valueAt_r1 ++ wsX2_valueAt_r2) ++ wsX20 ++ wsX00 ++ wsX10)
def wsX2_destinationPlace_r1 : List Cond := [Cond.constant RX2 48 (65536), Cond.methodLink RX2 150 yX2_indexedPlace, Cond.instanceMethod yX2_indexedPlace, Cond.selects RX2 yX2_indexedPlace yX2_indexedPlace, Cond.initialized RX2, Cond.code yX2_indexedPlace cX2_indexedPlace 4 (some .int), Cond.fieldLink RX2 16 "LowPowerCpu" "registers" "[I", Cond.fieldLink RX2 12 "LowPowerCpu" "memory" "LLowPowerCpu$Memory;", Cond.constant RX2 149 (65535), Cond.instanceMethod yX0_wordAt, Cond.initialized RX0, Cond.selects RX0 yX0_wordAt yX0_wordAt, Cond.code yX0_wordAt cX0_wordAt 2 (some .int), Cond.fieldLink RX0 18 "LowPowerCpu$Memory" "multiplier" "LLowPowerCpu$Multiplier;", Cond.fieldLink RX0 9 "LowPowerCpu$Memory" "cells" "[J", Cond.constant RX0 37 (65535), Cond.methodLink RX0 23 yX0_isMultiplier, Cond.static yX0_isMultiplier, Cond.code yX0_isMultiplier cX0_isMultiplier 1 (some .boolean), Cond.constant RX0 22 (65520), Cond.methodLink RX0 27 yX0_slotOf, Cond.static yX0_slotOf, Cond.code yX0_slotOf cX0_slotOf 1 (some .int), Cond.instanceMethod yX1_wordAtSlot]
def wsX2_destinationPlace_r2 : List Cond := [Cond.initialized RX1, Cond.selects RX1 yX1_wordAtSlot yX1_wordAtSlot, Cond.code yX1_wordAtSlot cX1_wordAtSlot 2 (some .int), Cond.fieldLink RX1 13 "LowPowerCpu$Multiplier" "two" "I", Cond.fieldLink RX1 16 "LowPowerCpu$Multiplier" "low" "I", Cond.fieldLink RX1 19 "LowPowerCpu$Multiplier" "high" "I", Cond.fieldLink RX1 22 "LowPowerCpu$Multiplier" "extra" "I", Cond.fieldLink RX1 7 "LowPowerCpu$Multiplier" "one" "I", Cond.methodLink RX0 34 yX0_cellOf, Cond.static yX0_cellOf, Cond.code yX0_cellOf cX0_cellOf 1 (some .int), Cond.methodLink RX2 62 yX2_addToRegister, Cond.instanceMethod yX2_addToRegister, Cond.selects RX2 yX2_addToRegister yX2_addToRegister, Cond.code yX2_addToRegister cX2_addToRegister 3 none, Cond.methodLink RX2 44 yX2_setRegister, Cond.instanceMethod yX2_setRegister, Cond.selects RX2 yX2_setRegister yX2_setRegister, Cond.code yX2_setRegister cX2_setRegister 3 none, Cond.constant RX2 39 (65534)]
def wsX2_destinationPlace : List Cond := .code yX2_destinationPlace cX2_destinationPlace 3 (some .int) :: ((wsX2_destinationPlace_r1 ++ wsX2_destinationPlace_r2) ++ wsX20 ++ wsX00 ++ wsX10)
def wsX2_isHighestSet : List Cond := .code yX2_isHighestSet cX2_isHighestSet 2 (some .boolean) :: ([])
def wsX2_setFlags : List Cond := .code yX2_setFlags cX2_setFlags 6 none :: ([.fieldLink RX2 16 "LowPowerCpu" "registers" "[I", .methodLink RX2 167 yX2_isHighestSet, .static yX2_isHighestSet, .initialized RX2, .code yX2_isHighestSet cX2_isHighestSet 2 (some .boolean), .methodLink RX2 44 yX2_setRegister, .instanceMethod yX2_setRegister, .selects RX2 yX2_setRegister yX2_setRegister, .code yX2_setRegister cX2_setRegister 3 none, .constant RX2 39 (65534), .constant RX2 149 (65535)] ++ wsX20)
def wsX2_add : List Cond := .code yX2_add cX2_add 8 (some .int) :: ([.methodLink RX2 167 yX2_isHighestSet, .static yX2_isHighestSet, .initialized RX2, .code yX2_isHighestSet cX2_isHighestSet 2 (some .boolean), .methodLink RX2 175 yX2_setFlags, .instanceMethod yX2_setFlags, .selects RX2 yX2_setFlags yX2_setFlags, .code yX2_setFlags cX2_setFlags 6 none, .fieldLink RX2 16 "LowPowerCpu" "registers" "[I", .methodLink RX2 44 yX2_setRegister, .instanceMethod yX2_setRegister, .selects RX2 yX2_setRegister yX2_setRegister, .code yX2_setRegister cX2_setRegister 3 none, .constant RX2 39 (65534), .constant RX2 149 (65535)] ++ wsX20)
def wsX2_addDecimal : List Cond := .code yX2_addDecimal cX2_addDecimal 8 (some .int) :: ([.fieldLink RX2 16 "LowPowerCpu" "registers" "[I", .methodLink RX2 175 yX2_setFlags, .instanceMethod yX2_setFlags, .selects RX2 yX2_setFlags yX2_setFlags, .initialized RX2, .code yX2_setFlags cX2_setFlags 6 none, .methodLink RX2 167 yX2_isHighestSet, .static yX2_isHighestSet, .code yX2_isHighestSet cX2_isHighestSet 2 (some .boolean), .methodLink RX2 44 yX2_setRegister, .instanceMethod yX2_setRegister, .selects RX2 yX2_setRegister yX2_setRegister, .code yX2_setRegister cX2_setRegister 3 none, .constant RX2 39 (65534), .constant RX2 149 (65535)] ++ wsX20)
def wsX2_logical : List Cond := .code yX2_logical cX2_logical 4 (some .int) :: ([.methodLink RX2 175 yX2_setFlags, .instanceMethod yX2_setFlags, .selects RX2 yX2_setFlags yX2_setFlags, .initialized RX2, .code yX2_setFlags cX2_setFlags 6 none, .fieldLink RX2 16 "LowPowerCpu" "registers" "[I", .methodLink RX2 167 yX2_isHighestSet, .static yX2_isHighestSet, .code yX2_isHighestSet cX2_isHighestSet 2 (some .boolean), .methodLink RX2 44 yX2_setRegister, .instanceMethod yX2_setRegister, .selects RX2 yX2_setRegister yX2_setRegister, .code yX2_setRegister cX2_setRegister 3 none, .constant RX2 39 (65534), .constant RX2 149 (65535)] ++ wsX20)
def wsX2_combine_r1 : List Cond := [Cond.constant RX2 149 (65535), Cond.fieldLink RX2 16 "LowPowerCpu" "registers" "[I", Cond.methodLink RX2 159 yX2_add, Cond.instanceMethod yX2_add, Cond.selects RX2 yX2_add yX2_add, Cond.initialized RX2, Cond.code yX2_add cX2_add 8 (some .int), Cond.methodLink RX2 167 yX2_isHighestSet, Cond.static yX2_isHighestSet, Cond.code yX2_isHighestSet cX2_isHighestSet 2 (some .boolean), Cond.methodLink RX2 175 yX2_setFlags, Cond.instanceMethod yX2_setFlags, Cond.selects RX2 yX2_setFlags yX2_setFlags, Cond.code yX2_setFlags cX2_setFlags 6 none, Cond.methodLink RX2 44 yX2_setRegister, Cond.instanceMethod yX2_setRegister, Cond.selects RX2 yX2_setRegister yX2_setRegister, Cond.code yX2_setRegister cX2_setRegister 3 none, Cond.constant RX2 39 (65534), Cond.methodLink RX2 163 yX2_addDecimal, Cond.instanceMethod yX2_addDecimal, Cond.selects RX2 yX2_addDecimal yX2_addDecimal, Cond.code yX2_addDecimal cX2_addDecimal 8 (some .int), Cond.methodLink RX2 171 yX2_logical]
def wsX2_combine_r2 : List Cond := [Cond.instanceMethod yX2_logical, Cond.selects RX2 yX2_logical yX2_logical, Cond.code yX2_logical cX2_logical 4 (some .int)]
def wsX2_combine : List Cond := .code yX2_combine cX2_combine 6 (some .int) :: ((wsX2_combine_r1 ++ wsX2_combine_r2) ++ wsX20)
def wsX2_put_r1 : List Cond := [Cond.constant RX2 148 (131072), Cond.constant RX2 48 (65536), Cond.fieldLink RX2 12 "LowPowerCpu" "memory" "LLowPowerCpu$Memory;", Cond.methodLink RX2 44 yX2_setRegister, Cond.instanceMethod yX2_setRegister, Cond.selects RX2 yX2_setRegister yX2_setRegister, Cond.initialized RX2, Cond.code yX2_setRegister cX2_setRegister 3 none, Cond.fieldLink RX2 16 "LowPowerCpu" "registers" "[I", Cond.constant RX2 39 (65534), Cond.constant RX2 149 (65535), Cond.instanceMethod yX0_writeByte, Cond.initialized RX0, Cond.selects RX0 yX0_writeByte yX0_writeByte, Cond.code yX0_writeByte cX0_writeByte 3 none, Cond.fieldLink RX0 18 "LowPowerCpu$Memory" "multiplier" "LLowPowerCpu$Multiplier;", Cond.methodLink RX0 23 yX0_isMultiplier, Cond.static yX0_isMultiplier, Cond.code yX0_isMultiplier cX0_isMultiplier 1 (some .boolean), Cond.constant RX0 22 (65520), Cond.methodLink RX0 48 yX0_placeByte, Cond.instanceMethod yX0_placeByte, Cond.selects RX0 yX0_placeByte yX0_placeByte, Cond.code yX0_placeByte cX0_placeByte 5 none]
def wsX2_put_r2 : List Cond := [Cond.constant RX0 51 (65280), Cond.methodLink RX0 38 yX0_wordAt, Cond.instanceMethod yX0_wordAt, Cond.selects RX0 yX0_wordAt yX0_wordAt, Cond.code yX0_wordAt cX0_wordAt 2 (some .int), Cond.fieldLink RX0 9 "LowPowerCpu$Memory" "cells" "[J", Cond.constant RX0 37 (65535), Cond.methodLink RX0 27 yX0_slotOf, Cond.static yX0_slotOf, Cond.code yX0_slotOf cX0_slotOf 1 (some .int), Cond.instanceMethod yX1_wordAtSlot, Cond.initialized RX1, Cond.selects RX1 yX1_wordAtSlot yX1_wordAtSlot, Cond.code yX1_wordAtSlot cX1_wordAtSlot 2 (some .int), Cond.fieldLink RX1 13 "LowPowerCpu$Multiplier" "two" "I", Cond.fieldLink RX1 16 "LowPowerCpu$Multiplier" "low" "I", Cond.fieldLink RX1 19 "LowPowerCpu$Multiplier" "high" "I", Cond.fieldLink RX1 22 "LowPowerCpu$Multiplier" "extra" "I", Cond.fieldLink RX1 7 "LowPowerCpu$Multiplier" "one" "I", Cond.methodLink RX0 34 yX0_cellOf, Cond.static yX0_cellOf, Cond.code yX0_cellOf cX0_cellOf 1 (some .int), Cond.instanceMethod yX1_placeWordAtSlot, Cond.selects RX1 yX1_placeWordAtSlot yX1_placeWordAtSlot]
def wsX2_put_r3 : List Cond := [Cond.code yX1_placeWordAtSlot cX1_placeWordAtSlot 3 none, Cond.methodLink RX0 45 yX0_placeWord, Cond.instanceMethod yX0_placeWord, Cond.selects RX0 yX0_placeWord yX0_placeWord, Cond.code yX0_placeWord cX0_placeWord 5 none, Cond.constantLong RX0 55 (65535), Cond.constantLong RX0 57 (-1), Cond.instanceMethod yX1_write, Cond.selects RX1 yX1_write yX1_write, Cond.code yX1_write cX1_write 3 none, Cond.fieldLink RX1 25 "LowPowerCpu$Multiplier" "way" "I", Cond.methodLink RX1 28 yX1_placeWordAtSlot, Cond.methodLink RX1 32 yX1_multiply, Cond.instanceMethod yX1_multiply, Cond.selects RX1 yX1_multiply yX1_multiply, Cond.code yX1_multiply cX1_multiply 9 none, Cond.constant RX1 35 (65535), Cond.constant RX1 36 (32768), Cond.constantLong RX1 37 (4294967295), Cond.instanceMethod yX0_writeWord, Cond.selects RX0 yX0_writeWord yX0_writeWord, Cond.code yX0_writeWord cX0_writeWord 3 none]
def wsX2_put : List Cond := .code yX2_put cX2_put 4 none :: ((wsX2_put_r1 ++ (wsX2_put_r2 ++ wsX2_put_r3)) ++ wsX20 ++ wsX00 ++ wsX10)
def wsX2_twoPartsCycles : List Cond := .code yX2_twoPartsCycles cX2_twoPartsCycles 1 (some (.array .int)) :: ([.constant RX2 48 (65536), .fieldLink RX2 185 "LowPowerCpu" "TO_MEMORY_CYCLES" "[I", .fieldLink RX2 188 "LowPowerCpu" "TO_PC_CYCLES" "[I", .fieldLink RX2 191 "LowPowerCpu" "TO_REGISTER_CYCLES" "[I"])
def wsX2_kindOfSource : List Cond := .code yX2_kindOfSource cX2_kindOfSource 2 (some .int) :: ([.constant RX2 48 (65536), .fieldLink RX2 182 "LowPowerCpu" "KIND_OF_WAY" "[I"])
def wsX2_spendByKind : List Cond := .code yX2_spendByKind cX2_spendByKind 3 none :: ([.methodLink RX2 93 yX2_spend, .instanceMethod yX2_spend, .selects RX2 yX2_spend yX2_spend, .initialized RX2, .code yX2_spend cX2_spend 2 none, .fieldLink RX2 27 "LowPowerCpu" "cycles" "I", .constant RX2 194 (1073741823)] ++ wsX20)
def wsX2_doTwoParts_r1 : List Cond := [Cond.methodLink RX2 96 yX2_sourcePlace, Cond.instanceMethod yX2_sourcePlace, Cond.selects RX2 yX2_sourcePlace yX2_sourcePlace, Cond.initialized RX2, Cond.code yX2_sourcePlace cX2_sourcePlace 6 (some .int), Cond.constant RX2 148 (131072), Cond.constant RX2 149 (65535), Cond.constant RX2 48 (65536), Cond.fieldLink RX2 16 "LowPowerCpu" "registers" "[I", Cond.methodLink RX2 150 yX2_indexedPlace, Cond.instanceMethod yX2_indexedPlace, Cond.selects RX2 yX2_indexedPlace yX2_indexedPlace, Cond.code yX2_indexedPlace cX2_indexedPlace 4 (some .int), Cond.fieldLink RX2 12 "LowPowerCpu" "memory" "LLowPowerCpu$Memory;", Cond.instanceMethod yX0_wordAt, Cond.initialized RX0, Cond.selects RX0 yX0_wordAt yX0_wordAt, Cond.code yX0_wordAt cX0_wordAt 2 (some .int), Cond.fieldLink RX0 18 "LowPowerCpu$Memory" "multiplier" "LLowPowerCpu$Multiplier;", Cond.fieldLink RX0 9 "LowPowerCpu$Memory" "cells" "[J", Cond.constant RX0 37 (65535), Cond.methodLink RX0 23 yX0_isMultiplier, Cond.static yX0_isMultiplier, Cond.code yX0_isMultiplier cX0_isMultiplier 1 (some .boolean)]
def wsX2_doTwoParts_r2 : List Cond := [Cond.constant RX0 22 (65520), Cond.methodLink RX0 27 yX0_slotOf, Cond.static yX0_slotOf, Cond.code yX0_slotOf cX0_slotOf 1 (some .int), Cond.instanceMethod yX1_wordAtSlot, Cond.initialized RX1, Cond.selects RX1 yX1_wordAtSlot yX1_wordAtSlot, Cond.code yX1_wordAtSlot cX1_wordAtSlot 2 (some .int), Cond.fieldLink RX1 13 "LowPowerCpu$Multiplier" "two" "I", Cond.fieldLink RX1 16 "LowPowerCpu$Multiplier" "low" "I", Cond.fieldLink RX1 19 "LowPowerCpu$Multiplier" "high" "I", Cond.fieldLink RX1 22 "LowPowerCpu$Multiplier" "extra" "I", Cond.fieldLink RX1 7 "LowPowerCpu$Multiplier" "one" "I", Cond.methodLink RX0 34 yX0_cellOf, Cond.static yX0_cellOf, Cond.code yX0_cellOf cX0_cellOf 1 (some .int), Cond.methodLink RX2 62 yX2_addToRegister, Cond.instanceMethod yX2_addToRegister, Cond.selects RX2 yX2_addToRegister yX2_addToRegister, Cond.code yX2_addToRegister cX2_addToRegister 3 none, Cond.methodLink RX2 44 yX2_setRegister, Cond.instanceMethod yX2_setRegister, Cond.selects RX2 yX2_setRegister yX2_setRegister, Cond.code yX2_setRegister cX2_setRegister 3 none]
def wsX2_doTwoParts_r3 : List Cond := [Cond.constant RX2 39 (65534), Cond.methodLink RX2 100 yX2_valueAt, Cond.instanceMethod yX2_valueAt, Cond.selects RX2 yX2_valueAt yX2_valueAt, Cond.code yX2_valueAt cX2_valueAt 4 (some .int), Cond.instanceMethod yX0_byteAt, Cond.selects RX0 yX0_byteAt yX0_byteAt, Cond.code yX0_byteAt cX0_byteAt 3 (some .int), Cond.methodLink RX0 38 yX0_wordAt, Cond.methodLink RX2 104 yX2_destinationPlace, Cond.instanceMethod yX2_destinationPlace, Cond.selects RX2 yX2_destinationPlace yX2_destinationPlace, Cond.code yX2_destinationPlace cX2_destinationPlace 3 (some .int), Cond.methodLink RX2 107 yX2_combine, Cond.instanceMethod yX2_combine, Cond.selects RX2 yX2_combine yX2_combine, Cond.code yX2_combine cX2_combine 6 (some .int), Cond.methodLink RX2 159 yX2_add, Cond.instanceMethod yX2_add, Cond.selects RX2 yX2_add yX2_add, Cond.code yX2_add cX2_add 8 (some .int), Cond.methodLink RX2 167 yX2_isHighestSet, Cond.static yX2_isHighestSet, Cond.code yX2_isHighestSet cX2_isHighestSet 2 (some .boolean)]
def wsX2_doTwoParts_r4 : List Cond := [Cond.methodLink RX2 175 yX2_setFlags, Cond.instanceMethod yX2_setFlags, Cond.selects RX2 yX2_setFlags yX2_setFlags, Cond.code yX2_setFlags cX2_setFlags 6 none, Cond.methodLink RX2 163 yX2_addDecimal, Cond.instanceMethod yX2_addDecimal, Cond.selects RX2 yX2_addDecimal yX2_addDecimal, Cond.code yX2_addDecimal cX2_addDecimal 8 (some .int), Cond.methodLink RX2 171 yX2_logical, Cond.instanceMethod yX2_logical, Cond.selects RX2 yX2_logical yX2_logical, Cond.code yX2_logical cX2_logical 4 (some .int), Cond.methodLink RX2 111 yX2_put, Cond.instanceMethod yX2_put, Cond.selects RX2 yX2_put yX2_put, Cond.code yX2_put cX2_put 4 none, Cond.instanceMethod yX0_writeByte, Cond.selects RX0 yX0_writeByte yX0_writeByte, Cond.code yX0_writeByte cX0_writeByte 3 none, Cond.methodLink RX0 48 yX0_placeByte, Cond.instanceMethod yX0_placeByte, Cond.selects RX0 yX0_placeByte yX0_placeByte, Cond.code yX0_placeByte cX0_placeByte 5 none, Cond.constant RX0 51 (65280)]
def wsX2_doTwoParts_r5 : List Cond := [Cond.instanceMethod yX1_placeWordAtSlot, Cond.selects RX1 yX1_placeWordAtSlot yX1_placeWordAtSlot, Cond.code yX1_placeWordAtSlot cX1_placeWordAtSlot 3 none, Cond.methodLink RX0 45 yX0_placeWord, Cond.instanceMethod yX0_placeWord, Cond.selects RX0 yX0_placeWord yX0_placeWord, Cond.code yX0_placeWord cX0_placeWord 5 none, Cond.constantLong RX0 55 (65535), Cond.constantLong RX0 57 (-1), Cond.instanceMethod yX1_write, Cond.selects RX1 yX1_write yX1_write, Cond.code yX1_write cX1_write 3 none, Cond.fieldLink RX1 25 "LowPowerCpu$Multiplier" "way" "I", Cond.methodLink RX1 28 yX1_placeWordAtSlot, Cond.methodLink RX1 32 yX1_multiply, Cond.instanceMethod yX1_multiply, Cond.selects RX1 yX1_multiply yX1_multiply, Cond.code yX1_multiply cX1_multiply 9 none, Cond.constant RX1 35 (65535), Cond.constant RX1 36 (32768), Cond.constantLong RX1 37 (4294967295), Cond.instanceMethod yX0_writeWord, Cond.selects RX0 yX0_writeWord yX0_writeWord, Cond.code yX0_writeWord cX0_writeWord 3 none]
def wsX2_doTwoParts_r6 : List Cond := [Cond.methodLink RX2 115 yX2_twoPartsCycles, Cond.static yX2_twoPartsCycles, Cond.code yX2_twoPartsCycles cX2_twoPartsCycles 1 (some (.array .int)), Cond.fieldLink RX2 185 "LowPowerCpu" "TO_MEMORY_CYCLES" "[I", Cond.fieldLink RX2 188 "LowPowerCpu" "TO_PC_CYCLES" "[I", Cond.fieldLink RX2 191 "LowPowerCpu" "TO_REGISTER_CYCLES" "[I", Cond.methodLink RX2 119 yX2_kindOfSource, Cond.static yX2_kindOfSource, Cond.code yX2_kindOfSource cX2_kindOfSource 2 (some .int), Cond.fieldLink RX2 182 "LowPowerCpu" "KIND_OF_WAY" "[I", Cond.methodLink RX2 122 yX2_spendByKind, Cond.instanceMethod yX2_spendByKind, Cond.selects RX2 yX2_spendByKind yX2_spendByKind, Cond.code yX2_spendByKind cX2_spendByKind 3 none, Cond.methodLink RX2 93 yX2_spend, Cond.instanceMethod yX2_spend, Cond.selects RX2 yX2_spend yX2_spend, Cond.code yX2_spend cX2_spend 2 none, Cond.fieldLink RX2 27 "LowPowerCpu" "cycles" "I", Cond.constant RX2 194 (1073741823)]
def wsX2_doTwoParts : List Cond := .code yX2_doTwoParts cX2_doTwoParts 9 none :: ((wsX2_doTwoParts_r1 ++ (wsX2_doTwoParts_r2 ++ (wsX2_doTwoParts_r3 ++ (wsX2_doTwoParts_r4 ++ (wsX2_doTwoParts_r5 ++ wsX2_doTwoParts_r6))))) ++ wsX20 ++ wsX00 ++ wsX10)
def wsX2_isSet : List Cond := .code yX2_isSet cX2_isSet 2 (some .boolean) :: ([.fieldLink RX2 16 "LowPowerCpu" "registers" "[I"] ++ wsX20)
def wsX2_isJumpTaken : List Cond := .code yX2_isJumpTaken cX2_isJumpTaken 3 (some .boolean) :: ([.methodLink RX2 142 yX2_isSet, .instanceMethod yX2_isSet, .selects RX2 yX2_isSet yX2_isSet, .initialized RX2, .code yX2_isSet cX2_isSet 2 (some .boolean), .fieldLink RX2 16 "LowPowerCpu" "registers" "[I"] ++ wsX20)
def wsX2_doJump_r1 : List Cond := [Cond.methodLink RX2 139 yX2_isJumpTaken, Cond.instanceMethod yX2_isJumpTaken, Cond.selects RX2 yX2_isJumpTaken yX2_isJumpTaken, Cond.initialized RX2, Cond.code yX2_isJumpTaken cX2_isJumpTaken 3 (some .boolean), Cond.methodLink RX2 142 yX2_isSet, Cond.instanceMethod yX2_isSet, Cond.selects RX2 yX2_isSet yX2_isSet, Cond.code yX2_isSet cX2_isSet 2 (some .boolean), Cond.fieldLink RX2 16 "LowPowerCpu" "registers" "[I", Cond.methodLink RX2 62 yX2_addToRegister, Cond.instanceMethod yX2_addToRegister, Cond.selects RX2 yX2_addToRegister yX2_addToRegister, Cond.code yX2_addToRegister cX2_addToRegister 3 none, Cond.methodLink RX2 44 yX2_setRegister, Cond.instanceMethod yX2_setRegister, Cond.selects RX2 yX2_setRegister yX2_setRegister, Cond.code yX2_setRegister cX2_setRegister 3 none, Cond.constant RX2 39 (65534), Cond.constant RX2 149 (65535), Cond.methodLink RX2 93 yX2_spend, Cond.instanceMethod yX2_spend, Cond.selects RX2 yX2_spend yX2_spend, Cond.code yX2_spend cX2_spend 2 none]
def wsX2_doJump_r2 : List Cond := [Cond.fieldLink RX2 27 "LowPowerCpu" "cycles" "I", Cond.constant RX2 194 (1073741823)]
def wsX2_doJump : List Cond := .code yX2_doJump cX2_doJump 3 none :: ((wsX2_doJump_r1 ++ wsX2_doJump_r2) ++ wsX20)
def wsX2_pop_r1 : List Cond := [Cond.fieldLink RX2 12 "LowPowerCpu" "memory" "LLowPowerCpu$Memory;", Cond.fieldLink RX2 16 "LowPowerCpu" "registers" "[I", Cond.instanceMethod yX0_wordAt, Cond.initialized RX0, Cond.selects RX0 yX0_wordAt yX0_wordAt, Cond.code yX0_wordAt cX0_wordAt 2 (some .int), Cond.fieldLink RX0 18 "LowPowerCpu$Memory" "multiplier" "LLowPowerCpu$Multiplier;", Cond.fieldLink RX0 9 "LowPowerCpu$Memory" "cells" "[J", Cond.constant RX0 37 (65535), Cond.methodLink RX0 23 yX0_isMultiplier, Cond.static yX0_isMultiplier, Cond.code yX0_isMultiplier cX0_isMultiplier 1 (some .boolean), Cond.constant RX0 22 (65520), Cond.methodLink RX0 27 yX0_slotOf, Cond.static yX0_slotOf, Cond.code yX0_slotOf cX0_slotOf 1 (some .int), Cond.instanceMethod yX1_wordAtSlot, Cond.initialized RX1, Cond.selects RX1 yX1_wordAtSlot yX1_wordAtSlot, Cond.code yX1_wordAtSlot cX1_wordAtSlot 2 (some .int), Cond.fieldLink RX1 13 "LowPowerCpu$Multiplier" "two" "I", Cond.fieldLink RX1 16 "LowPowerCpu$Multiplier" "low" "I", Cond.fieldLink RX1 19 "LowPowerCpu$Multiplier" "high" "I", Cond.fieldLink RX1 22 "LowPowerCpu$Multiplier" "extra" "I"]
def wsX2_pop_r2 : List Cond := [Cond.fieldLink RX1 7 "LowPowerCpu$Multiplier" "one" "I", Cond.methodLink RX0 34 yX0_cellOf, Cond.static yX0_cellOf, Cond.code yX0_cellOf cX0_cellOf 1 (some .int), Cond.methodLink RX2 62 yX2_addToRegister, Cond.instanceMethod yX2_addToRegister, Cond.selects RX2 yX2_addToRegister yX2_addToRegister, Cond.initialized RX2, Cond.code yX2_addToRegister cX2_addToRegister 3 none, Cond.methodLink RX2 44 yX2_setRegister, Cond.instanceMethod yX2_setRegister, Cond.selects RX2 yX2_setRegister yX2_setRegister, Cond.code yX2_setRegister cX2_setRegister 3 none, Cond.constant RX2 39 (65534), Cond.constant RX2 149 (65535)]
def wsX2_pop : List Cond := .code yX2_pop cX2_pop 2 (some .int) :: ((wsX2_pop_r1 ++ wsX2_pop_r2) ++ wsX20 ++ wsX00 ++ wsX10)
def wsX2_returnFromInterrupt_r1 : List Cond := [Cond.methodLink RX2 145 yX2_pop, Cond.instanceMethod yX2_pop, Cond.selects RX2 yX2_pop yX2_pop, Cond.initialized RX2, Cond.code yX2_pop cX2_pop 2 (some .int), Cond.fieldLink RX2 12 "LowPowerCpu" "memory" "LLowPowerCpu$Memory;", Cond.fieldLink RX2 16 "LowPowerCpu" "registers" "[I", Cond.instanceMethod yX0_wordAt, Cond.initialized RX0, Cond.selects RX0 yX0_wordAt yX0_wordAt, Cond.code yX0_wordAt cX0_wordAt 2 (some .int), Cond.fieldLink RX0 18 "LowPowerCpu$Memory" "multiplier" "LLowPowerCpu$Multiplier;", Cond.fieldLink RX0 9 "LowPowerCpu$Memory" "cells" "[J", Cond.constant RX0 37 (65535), Cond.methodLink RX0 23 yX0_isMultiplier, Cond.static yX0_isMultiplier, Cond.code yX0_isMultiplier cX0_isMultiplier 1 (some .boolean), Cond.constant RX0 22 (65520), Cond.methodLink RX0 27 yX0_slotOf, Cond.static yX0_slotOf, Cond.code yX0_slotOf cX0_slotOf 1 (some .int), Cond.instanceMethod yX1_wordAtSlot, Cond.initialized RX1, Cond.selects RX1 yX1_wordAtSlot yX1_wordAtSlot]
def wsX2_returnFromInterrupt_r2 : List Cond := [Cond.code yX1_wordAtSlot cX1_wordAtSlot 2 (some .int), Cond.fieldLink RX1 13 "LowPowerCpu$Multiplier" "two" "I", Cond.fieldLink RX1 16 "LowPowerCpu$Multiplier" "low" "I", Cond.fieldLink RX1 19 "LowPowerCpu$Multiplier" "high" "I", Cond.fieldLink RX1 22 "LowPowerCpu$Multiplier" "extra" "I", Cond.fieldLink RX1 7 "LowPowerCpu$Multiplier" "one" "I", Cond.methodLink RX0 34 yX0_cellOf, Cond.static yX0_cellOf, Cond.code yX0_cellOf cX0_cellOf 1 (some .int), Cond.methodLink RX2 62 yX2_addToRegister, Cond.instanceMethod yX2_addToRegister, Cond.selects RX2 yX2_addToRegister yX2_addToRegister, Cond.code yX2_addToRegister cX2_addToRegister 3 none, Cond.methodLink RX2 44 yX2_setRegister, Cond.instanceMethod yX2_setRegister, Cond.selects RX2 yX2_setRegister yX2_setRegister, Cond.code yX2_setRegister cX2_setRegister 3 none, Cond.constant RX2 39 (65534), Cond.constant RX2 149 (65535), Cond.methodLink RX2 93 yX2_spend, Cond.instanceMethod yX2_spend, Cond.selects RX2 yX2_spend yX2_spend, Cond.code yX2_spend cX2_spend 2 none, Cond.fieldLink RX2 27 "LowPowerCpu" "cycles" "I"]
def wsX2_returnFromInterrupt_r3 : List Cond := [Cond.constant RX2 194 (1073741823)]
def wsX2_returnFromInterrupt : List Cond := .code yX2_returnFromInterrupt cX2_returnFromInterrupt 1 none :: ((wsX2_returnFromInterrupt_r1 ++ (wsX2_returnFromInterrupt_r2 ++ wsX2_returnFromInterrupt_r3)) ++ wsX20 ++ wsX00 ++ wsX10)
def wsX2_shifted : List Cond := .code yX2_shifted cX2_shifted 5 (some .int) :: ([.methodLink RX2 175 yX2_setFlags, .instanceMethod yX2_setFlags, .selects RX2 yX2_setFlags yX2_setFlags, .initialized RX2, .code yX2_setFlags cX2_setFlags 6 none, .fieldLink RX2 16 "LowPowerCpu" "registers" "[I", .methodLink RX2 167 yX2_isHighestSet, .static yX2_isHighestSet, .code yX2_isHighestSet cX2_isHighestSet 2 (some .boolean), .methodLink RX2 44 yX2_setRegister, .instanceMethod yX2_setRegister, .selects RX2 yX2_setRegister yX2_setRegister, .code yX2_setRegister cX2_setRegister 3 none, .constant RX2 39 (65534), .constant RX2 149 (65535)] ++ wsX20)
def wsX2_change_r1 : List Cond := [Cond.constant RX2 149 (65535), Cond.methodLink RX2 142 yX2_isSet, Cond.instanceMethod yX2_isSet, Cond.selects RX2 yX2_isSet yX2_isSet, Cond.initialized RX2, Cond.code yX2_isSet cX2_isSet 2 (some .boolean), Cond.fieldLink RX2 16 "LowPowerCpu" "registers" "[I", Cond.methodLink RX2 179 yX2_shifted, Cond.instanceMethod yX2_shifted, Cond.selects RX2 yX2_shifted yX2_shifted, Cond.code yX2_shifted cX2_shifted 5 (some .int), Cond.methodLink RX2 175 yX2_setFlags, Cond.instanceMethod yX2_setFlags, Cond.selects RX2 yX2_setFlags yX2_setFlags, Cond.code yX2_setFlags cX2_setFlags 6 none, Cond.methodLink RX2 167 yX2_isHighestSet, Cond.static yX2_isHighestSet, Cond.code yX2_isHighestSet cX2_isHighestSet 2 (some .boolean), Cond.methodLink RX2 44 yX2_setRegister, Cond.instanceMethod yX2_setRegister, Cond.selects RX2 yX2_setRegister yX2_setRegister, Cond.code yX2_setRegister cX2_setRegister 3 none, Cond.constant RX2 39 (65534), Cond.methodLink RX2 171 yX2_logical]
def wsX2_change_r2 : List Cond := [Cond.instanceMethod yX2_logical, Cond.selects RX2 yX2_logical yX2_logical, Cond.code yX2_logical cX2_logical 4 (some .int)]
def wsX2_change : List Cond := .code yX2_change cX2_change 6 (some .int) :: ((wsX2_change_r1 ++ wsX2_change_r2) ++ wsX20)
def wsX2_doOnePart_r1 : List Cond := [Cond.fieldLink RX2 126 "LowPowerCpu" "PUSH_CYCLES" "[I", Cond.fieldLink RX2 16 "LowPowerCpu" "registers" "[I", Cond.fieldLink RX2 129 "LowPowerCpu" "CALL_CYCLES" "[I", Cond.fieldLink RX2 136 "LowPowerCpu" "CHANGE_CYCLES" "[I", Cond.methodLink RX2 96 yX2_sourcePlace, Cond.instanceMethod yX2_sourcePlace, Cond.selects RX2 yX2_sourcePlace yX2_sourcePlace, Cond.initialized RX2, Cond.code yX2_sourcePlace cX2_sourcePlace 6 (some .int), Cond.constant RX2 148 (131072), Cond.constant RX2 149 (65535), Cond.constant RX2 48 (65536), Cond.methodLink RX2 150 yX2_indexedPlace, Cond.instanceMethod yX2_indexedPlace, Cond.selects RX2 yX2_indexedPlace yX2_indexedPlace, Cond.code yX2_indexedPlace cX2_indexedPlace 4 (some .int), Cond.fieldLink RX2 12 "LowPowerCpu" "memory" "LLowPowerCpu$Memory;", Cond.instanceMethod yX0_wordAt, Cond.initialized RX0, Cond.selects RX0 yX0_wordAt yX0_wordAt, Cond.code yX0_wordAt cX0_wordAt 2 (some .int), Cond.fieldLink RX0 18 "LowPowerCpu$Memory" "multiplier" "LLowPowerCpu$Multiplier;", Cond.fieldLink RX0 9 "LowPowerCpu$Memory" "cells" "[J", Cond.constant RX0 37 (65535)]
def wsX2_doOnePart_r2 : List Cond := [Cond.methodLink RX0 23 yX0_isMultiplier, Cond.static yX0_isMultiplier, Cond.code yX0_isMultiplier cX0_isMultiplier 1 (some .boolean), Cond.constant RX0 22 (65520), Cond.methodLink RX0 27 yX0_slotOf, Cond.static yX0_slotOf, Cond.code yX0_slotOf cX0_slotOf 1 (some .int), Cond.instanceMethod yX1_wordAtSlot, Cond.initialized RX1, Cond.selects RX1 yX1_wordAtSlot yX1_wordAtSlot, Cond.code yX1_wordAtSlot cX1_wordAtSlot 2 (some .int), Cond.fieldLink RX1 13 "LowPowerCpu$Multiplier" "two" "I", Cond.fieldLink RX1 16 "LowPowerCpu$Multiplier" "low" "I", Cond.fieldLink RX1 19 "LowPowerCpu$Multiplier" "high" "I", Cond.fieldLink RX1 22 "LowPowerCpu$Multiplier" "extra" "I", Cond.fieldLink RX1 7 "LowPowerCpu$Multiplier" "one" "I", Cond.methodLink RX0 34 yX0_cellOf, Cond.static yX0_cellOf, Cond.code yX0_cellOf cX0_cellOf 1 (some .int), Cond.methodLink RX2 62 yX2_addToRegister, Cond.instanceMethod yX2_addToRegister, Cond.selects RX2 yX2_addToRegister yX2_addToRegister, Cond.code yX2_addToRegister cX2_addToRegister 3 none, Cond.methodLink RX2 44 yX2_setRegister]
def wsX2_doOnePart_r3 : List Cond := [Cond.instanceMethod yX2_setRegister, Cond.selects RX2 yX2_setRegister yX2_setRegister, Cond.code yX2_setRegister cX2_setRegister 3 none, Cond.constant RX2 39 (65534), Cond.methodLink RX2 100 yX2_valueAt, Cond.instanceMethod yX2_valueAt, Cond.selects RX2 yX2_valueAt yX2_valueAt, Cond.code yX2_valueAt cX2_valueAt 4 (some .int), Cond.instanceMethod yX0_byteAt, Cond.selects RX0 yX0_byteAt yX0_byteAt, Cond.code yX0_byteAt cX0_byteAt 3 (some .int), Cond.methodLink RX0 38 yX0_wordAt, Cond.methodLink RX2 119 yX2_kindOfSource, Cond.static yX2_kindOfSource, Cond.code yX2_kindOfSource cX2_kindOfSource 2 (some .int), Cond.fieldLink RX2 182 "LowPowerCpu" "KIND_OF_WAY" "[I", Cond.methodLink RX2 88 yX2_push, Cond.instanceMethod yX2_push, Cond.selects RX2 yX2_push yX2_push, Cond.code yX2_push cX2_push 3 none, Cond.instanceMethod yX0_writeByte, Cond.selects RX0 yX0_writeByte yX0_writeByte, Cond.code yX0_writeByte cX0_writeByte 3 none, Cond.methodLink RX0 48 yX0_placeByte]
def wsX2_doOnePart_r4 : List Cond := [Cond.instanceMethod yX0_placeByte, Cond.selects RX0 yX0_placeByte yX0_placeByte, Cond.code yX0_placeByte cX0_placeByte 5 none, Cond.constant RX0 51 (65280), Cond.instanceMethod yX1_placeWordAtSlot, Cond.selects RX1 yX1_placeWordAtSlot yX1_placeWordAtSlot, Cond.code yX1_placeWordAtSlot cX1_placeWordAtSlot 3 none, Cond.methodLink RX0 45 yX0_placeWord, Cond.instanceMethod yX0_placeWord, Cond.selects RX0 yX0_placeWord yX0_placeWord, Cond.code yX0_placeWord cX0_placeWord 5 none, Cond.constantLong RX0 55 (65535), Cond.constantLong RX0 57 (-1), Cond.instanceMethod yX1_write, Cond.selects RX1 yX1_write yX1_write, Cond.code yX1_write cX1_write 3 none, Cond.fieldLink RX1 25 "LowPowerCpu$Multiplier" "way" "I", Cond.methodLink RX1 28 yX1_placeWordAtSlot, Cond.methodLink RX1 32 yX1_multiply, Cond.instanceMethod yX1_multiply, Cond.selects RX1 yX1_multiply yX1_multiply, Cond.code yX1_multiply cX1_multiply 9 none, Cond.constant RX1 35 (65535), Cond.constant RX1 36 (32768)]
def wsX2_doOnePart_r5 : List Cond := [Cond.constantLong RX1 37 (4294967295), Cond.instanceMethod yX0_writeWord, Cond.selects RX0 yX0_writeWord yX0_writeWord, Cond.code yX0_writeWord cX0_writeWord 3 none, Cond.methodLink RX2 93 yX2_spend, Cond.instanceMethod yX2_spend, Cond.selects RX2 yX2_spend yX2_spend, Cond.code yX2_spend cX2_spend 2 none, Cond.fieldLink RX2 27 "LowPowerCpu" "cycles" "I", Cond.constant RX2 194 (1073741823), Cond.methodLink RX2 122 yX2_spendByKind, Cond.instanceMethod yX2_spendByKind, Cond.selects RX2 yX2_spendByKind yX2_spendByKind, Cond.code yX2_spendByKind cX2_spendByKind 3 none, Cond.methodLink RX2 132 yX2_change, Cond.instanceMethod yX2_change, Cond.selects RX2 yX2_change yX2_change, Cond.code yX2_change cX2_change 6 (some .int), Cond.methodLink RX2 142 yX2_isSet, Cond.instanceMethod yX2_isSet, Cond.selects RX2 yX2_isSet yX2_isSet, Cond.code yX2_isSet cX2_isSet 2 (some .boolean), Cond.methodLink RX2 179 yX2_shifted, Cond.instanceMethod yX2_shifted]
def wsX2_doOnePart_r6 : List Cond := [Cond.selects RX2 yX2_shifted yX2_shifted, Cond.code yX2_shifted cX2_shifted 5 (some .int), Cond.methodLink RX2 175 yX2_setFlags, Cond.instanceMethod yX2_setFlags, Cond.selects RX2 yX2_setFlags yX2_setFlags, Cond.code yX2_setFlags cX2_setFlags 6 none, Cond.methodLink RX2 167 yX2_isHighestSet, Cond.static yX2_isHighestSet, Cond.code yX2_isHighestSet cX2_isHighestSet 2 (some .boolean), Cond.methodLink RX2 171 yX2_logical, Cond.instanceMethod yX2_logical, Cond.selects RX2 yX2_logical yX2_logical, Cond.code yX2_logical cX2_logical 4 (some .int), Cond.methodLink RX2 111 yX2_put, Cond.instanceMethod yX2_put, Cond.selects RX2 yX2_put yX2_put, Cond.code yX2_put cX2_put 4 none]
def wsX2_doOnePart : List Cond := .code yX2_doOnePart cX2_doOnePart 7 none :: ((wsX2_doOnePart_r1 ++ (wsX2_doOnePart_r2 ++ (wsX2_doOnePart_r3 ++ (wsX2_doOnePart_r4 ++ (wsX2_doOnePart_r5 ++ wsX2_doOnePart_r6))))) ++ wsX20 ++ wsX00 ++ wsX10)
def wsX2_step_r1 : List Cond := [Cond.fieldLink RX2 16 "LowPowerCpu" "registers" "[I", Cond.fieldLink RX2 23 "LowPowerCpu" "pendingLines" "I", Cond.fieldLink RX2 12 "LowPowerCpu" "memory" "LLowPowerCpu$Memory;", Cond.methodLink RX2 55 yX2_interrupt, Cond.instanceMethod yX2_interrupt, Cond.selects RX2 yX2_interrupt yX2_interrupt, Cond.initialized RX2, Cond.code yX2_interrupt cX2_interrupt 2 none, Cond.constant RX2 92 (65504), Cond.methodLink RX2 85 yX2_highestPendingLine, Cond.instanceMethod yX2_highestPendingLine, Cond.selects RX2 yX2_highestPendingLine yX2_highestPendingLine, Cond.code yX2_highestPendingLine cX2_highestPendingLine 2 (some .int), Cond.methodLink RX2 88 yX2_push, Cond.instanceMethod yX2_push, Cond.selects RX2 yX2_push yX2_push, Cond.code yX2_push cX2_push 3 none, Cond.methodLink RX2 62 yX2_addToRegister, Cond.instanceMethod yX2_addToRegister, Cond.selects RX2 yX2_addToRegister yX2_addToRegister, Cond.code yX2_addToRegister cX2_addToRegister 3 none, Cond.methodLink RX2 44 yX2_setRegister, Cond.instanceMethod yX2_setRegister, Cond.selects RX2 yX2_setRegister yX2_setRegister]
def wsX2_step_r2 : List Cond := [Cond.code yX2_setRegister cX2_setRegister 3 none, Cond.constant RX2 39 (65534), Cond.constant RX2 149 (65535), Cond.instanceMethod yX0_writeByte, Cond.initialized RX0, Cond.selects RX0 yX0_writeByte yX0_writeByte, Cond.code yX0_writeByte cX0_writeByte 3 none, Cond.fieldLink RX0 18 "LowPowerCpu$Memory" "multiplier" "LLowPowerCpu$Multiplier;", Cond.methodLink RX0 23 yX0_isMultiplier, Cond.static yX0_isMultiplier, Cond.code yX0_isMultiplier cX0_isMultiplier 1 (some .boolean), Cond.constant RX0 22 (65520), Cond.methodLink RX0 48 yX0_placeByte, Cond.instanceMethod yX0_placeByte, Cond.selects RX0 yX0_placeByte yX0_placeByte, Cond.code yX0_placeByte cX0_placeByte 5 none, Cond.constant RX0 51 (65280), Cond.methodLink RX0 38 yX0_wordAt, Cond.instanceMethod yX0_wordAt, Cond.selects RX0 yX0_wordAt yX0_wordAt, Cond.code yX0_wordAt cX0_wordAt 2 (some .int), Cond.fieldLink RX0 9 "LowPowerCpu$Memory" "cells" "[J", Cond.constant RX0 37 (65535), Cond.methodLink RX0 27 yX0_slotOf]
def wsX2_step_r3 : List Cond := [Cond.static yX0_slotOf, Cond.code yX0_slotOf cX0_slotOf 1 (some .int), Cond.instanceMethod yX1_wordAtSlot, Cond.initialized RX1, Cond.selects RX1 yX1_wordAtSlot yX1_wordAtSlot, Cond.code yX1_wordAtSlot cX1_wordAtSlot 2 (some .int), Cond.fieldLink RX1 13 "LowPowerCpu$Multiplier" "two" "I", Cond.fieldLink RX1 16 "LowPowerCpu$Multiplier" "low" "I", Cond.fieldLink RX1 19 "LowPowerCpu$Multiplier" "high" "I", Cond.fieldLink RX1 22 "LowPowerCpu$Multiplier" "extra" "I", Cond.fieldLink RX1 7 "LowPowerCpu$Multiplier" "one" "I", Cond.methodLink RX0 34 yX0_cellOf, Cond.static yX0_cellOf, Cond.code yX0_cellOf cX0_cellOf 1 (some .int), Cond.instanceMethod yX1_placeWordAtSlot, Cond.selects RX1 yX1_placeWordAtSlot yX1_placeWordAtSlot, Cond.code yX1_placeWordAtSlot cX1_placeWordAtSlot 3 none, Cond.methodLink RX0 45 yX0_placeWord, Cond.instanceMethod yX0_placeWord, Cond.selects RX0 yX0_placeWord yX0_placeWord, Cond.code yX0_placeWord cX0_placeWord 5 none, Cond.constantLong RX0 55 (65535), Cond.constantLong RX0 57 (-1), Cond.instanceMethod yX1_write]
def wsX2_step_r4 : List Cond := [Cond.selects RX1 yX1_write yX1_write, Cond.code yX1_write cX1_write 3 none, Cond.fieldLink RX1 25 "LowPowerCpu$Multiplier" "way" "I", Cond.methodLink RX1 28 yX1_placeWordAtSlot, Cond.methodLink RX1 32 yX1_multiply, Cond.instanceMethod yX1_multiply, Cond.selects RX1 yX1_multiply yX1_multiply, Cond.code yX1_multiply cX1_multiply 9 none, Cond.constant RX1 35 (65535), Cond.constant RX1 36 (32768), Cond.constantLong RX1 37 (4294967295), Cond.instanceMethod yX0_writeWord, Cond.selects RX0 yX0_writeWord yX0_writeWord, Cond.code yX0_writeWord cX0_writeWord 3 none, Cond.methodLink RX2 93 yX2_spend, Cond.instanceMethod yX2_spend, Cond.selects RX2 yX2_spend yX2_spend, Cond.code yX2_spend cX2_spend 2 none, Cond.fieldLink RX2 27 "LowPowerCpu" "cycles" "I", Cond.constant RX2 194 (1073741823), Cond.methodLink RX2 58 yX2_isUnassigned, Cond.static yX2_isUnassigned, Cond.code yX2_isUnassigned cX2_isUnassigned 3 (some .boolean), Cond.methodLink RX2 65 yX2_doTwoParts]
def wsX2_step_r5 : List Cond := [Cond.instanceMethod yX2_doTwoParts, Cond.selects RX2 yX2_doTwoParts yX2_doTwoParts, Cond.code yX2_doTwoParts cX2_doTwoParts 9 none, Cond.methodLink RX2 96 yX2_sourcePlace, Cond.instanceMethod yX2_sourcePlace, Cond.selects RX2 yX2_sourcePlace yX2_sourcePlace, Cond.code yX2_sourcePlace cX2_sourcePlace 6 (some .int), Cond.constant RX2 148 (131072), Cond.constant RX2 48 (65536), Cond.methodLink RX2 150 yX2_indexedPlace, Cond.instanceMethod yX2_indexedPlace, Cond.selects RX2 yX2_indexedPlace yX2_indexedPlace, Cond.code yX2_indexedPlace cX2_indexedPlace 4 (some .int), Cond.methodLink RX2 100 yX2_valueAt, Cond.instanceMethod yX2_valueAt, Cond.selects RX2 yX2_valueAt yX2_valueAt, Cond.code yX2_valueAt cX2_valueAt 4 (some .int), Cond.instanceMethod yX0_byteAt, Cond.selects RX0 yX0_byteAt yX0_byteAt, Cond.code yX0_byteAt cX0_byteAt 3 (some .int), Cond.methodLink RX2 104 yX2_destinationPlace, Cond.instanceMethod yX2_destinationPlace, Cond.selects RX2 yX2_destinationPlace yX2_destinationPlace, Cond.code yX2_destinationPlace cX2_destinationPlace 3 (some .int)]
def wsX2_step_r6 : List Cond := [Cond.methodLink RX2 107 yX2_combine, Cond.instanceMethod yX2_combine, Cond.selects RX2 yX2_combine yX2_combine, Cond.code yX2_combine cX2_combine 6 (some .int), Cond.methodLink RX2 159 yX2_add, Cond.instanceMethod yX2_add, Cond.selects RX2 yX2_add yX2_add, Cond.code yX2_add cX2_add 8 (some .int), Cond.methodLink RX2 167 yX2_isHighestSet, Cond.static yX2_isHighestSet, Cond.code yX2_isHighestSet cX2_isHighestSet 2 (some .boolean), Cond.methodLink RX2 175 yX2_setFlags, Cond.instanceMethod yX2_setFlags, Cond.selects RX2 yX2_setFlags yX2_setFlags, Cond.code yX2_setFlags cX2_setFlags 6 none, Cond.methodLink RX2 163 yX2_addDecimal, Cond.instanceMethod yX2_addDecimal, Cond.selects RX2 yX2_addDecimal yX2_addDecimal, Cond.code yX2_addDecimal cX2_addDecimal 8 (some .int), Cond.methodLink RX2 171 yX2_logical, Cond.instanceMethod yX2_logical, Cond.selects RX2 yX2_logical yX2_logical, Cond.code yX2_logical cX2_logical 4 (some .int), Cond.methodLink RX2 111 yX2_put]
def wsX2_step_r7 : List Cond := [Cond.instanceMethod yX2_put, Cond.selects RX2 yX2_put yX2_put, Cond.code yX2_put cX2_put 4 none, Cond.methodLink RX2 115 yX2_twoPartsCycles, Cond.static yX2_twoPartsCycles, Cond.code yX2_twoPartsCycles cX2_twoPartsCycles 1 (some (.array .int)), Cond.fieldLink RX2 185 "LowPowerCpu" "TO_MEMORY_CYCLES" "[I", Cond.fieldLink RX2 188 "LowPowerCpu" "TO_PC_CYCLES" "[I", Cond.fieldLink RX2 191 "LowPowerCpu" "TO_REGISTER_CYCLES" "[I", Cond.methodLink RX2 119 yX2_kindOfSource, Cond.static yX2_kindOfSource, Cond.code yX2_kindOfSource cX2_kindOfSource 2 (some .int), Cond.fieldLink RX2 182 "LowPowerCpu" "KIND_OF_WAY" "[I", Cond.methodLink RX2 122 yX2_spendByKind, Cond.instanceMethod yX2_spendByKind, Cond.selects RX2 yX2_spendByKind yX2_spendByKind, Cond.code yX2_spendByKind cX2_spendByKind 3 none, Cond.methodLink RX2 69 yX2_doJump, Cond.instanceMethod yX2_doJump, Cond.selects RX2 yX2_doJump yX2_doJump, Cond.code yX2_doJump cX2_doJump 3 none, Cond.methodLink RX2 139 yX2_isJumpTaken, Cond.instanceMethod yX2_isJumpTaken, Cond.selects RX2 yX2_isJumpTaken yX2_isJumpTaken]
def wsX2_step_r8 : List Cond := [Cond.code yX2_isJumpTaken cX2_isJumpTaken 3 (some .boolean), Cond.methodLink RX2 142 yX2_isSet, Cond.instanceMethod yX2_isSet, Cond.selects RX2 yX2_isSet yX2_isSet, Cond.code yX2_isSet cX2_isSet 2 (some .boolean), Cond.methodLink RX2 72 yX2_returnFromInterrupt, Cond.instanceMethod yX2_returnFromInterrupt, Cond.selects RX2 yX2_returnFromInterrupt yX2_returnFromInterrupt, Cond.code yX2_returnFromInterrupt cX2_returnFromInterrupt 1 none, Cond.methodLink RX2 145 yX2_pop, Cond.instanceMethod yX2_pop, Cond.selects RX2 yX2_pop yX2_pop, Cond.code yX2_pop cX2_pop 2 (some .int), Cond.methodLink RX2 75 yX2_doOnePart, Cond.instanceMethod yX2_doOnePart, Cond.selects RX2 yX2_doOnePart yX2_doOnePart, Cond.code yX2_doOnePart cX2_doOnePart 7 none, Cond.fieldLink RX2 126 "LowPowerCpu" "PUSH_CYCLES" "[I", Cond.fieldLink RX2 129 "LowPowerCpu" "CALL_CYCLES" "[I", Cond.fieldLink RX2 136 "LowPowerCpu" "CHANGE_CYCLES" "[I", Cond.methodLink RX2 132 yX2_change, Cond.instanceMethod yX2_change, Cond.selects RX2 yX2_change yX2_change, Cond.code yX2_change cX2_change 6 (some .int)]
def wsX2_step_r9 : List Cond := [Cond.methodLink RX2 179 yX2_shifted, Cond.instanceMethod yX2_shifted, Cond.selects RX2 yX2_shifted yX2_shifted, Cond.code yX2_shifted cX2_shifted 5 (some .int)]
def wsX2_step : List Cond := .code yX2_step cX2_step 3 (some .int) :: ((wsX2_step_r1 ++ (wsX2_step_r2 ++ (wsX2_step_r3 ++ (wsX2_step_r4 ++ (wsX2_step_r5 ++ (wsX2_step_r6 ++ (wsX2_step_r7 ++ (wsX2_step_r8 ++ wsX2_step_r9)))))))) ++ wsX20 ++ wsX00 ++ wsX10)
def wsX2_run_r1 : List Cond := [Cond.methodLink RX2 78 yX2_step, Cond.instanceMethod yX2_step, Cond.selects RX2 yX2_step yX2_step, Cond.initialized RX2, Cond.code yX2_step cX2_step 3 (some .int), Cond.fieldLink RX2 16 "LowPowerCpu" "registers" "[I", Cond.fieldLink RX2 23 "LowPowerCpu" "pendingLines" "I", Cond.fieldLink RX2 12 "LowPowerCpu" "memory" "LLowPowerCpu$Memory;", Cond.methodLink RX2 55 yX2_interrupt, Cond.instanceMethod yX2_interrupt, Cond.selects RX2 yX2_interrupt yX2_interrupt, Cond.code yX2_interrupt cX2_interrupt 2 none, Cond.constant RX2 92 (65504), Cond.methodLink RX2 85 yX2_highestPendingLine, Cond.instanceMethod yX2_highestPendingLine, Cond.selects RX2 yX2_highestPendingLine yX2_highestPendingLine, Cond.code yX2_highestPendingLine cX2_highestPendingLine 2 (some .int), Cond.methodLink RX2 88 yX2_push, Cond.instanceMethod yX2_push, Cond.selects RX2 yX2_push yX2_push, Cond.code yX2_push cX2_push 3 none, Cond.methodLink RX2 62 yX2_addToRegister, Cond.instanceMethod yX2_addToRegister, Cond.selects RX2 yX2_addToRegister yX2_addToRegister]
def wsX2_run_r2 : List Cond := [Cond.code yX2_addToRegister cX2_addToRegister 3 none, Cond.methodLink RX2 44 yX2_setRegister, Cond.instanceMethod yX2_setRegister, Cond.selects RX2 yX2_setRegister yX2_setRegister, Cond.code yX2_setRegister cX2_setRegister 3 none, Cond.constant RX2 39 (65534), Cond.constant RX2 149 (65535), Cond.instanceMethod yX0_writeByte, Cond.initialized RX0, Cond.selects RX0 yX0_writeByte yX0_writeByte, Cond.code yX0_writeByte cX0_writeByte 3 none, Cond.fieldLink RX0 18 "LowPowerCpu$Memory" "multiplier" "LLowPowerCpu$Multiplier;", Cond.methodLink RX0 23 yX0_isMultiplier, Cond.static yX0_isMultiplier, Cond.code yX0_isMultiplier cX0_isMultiplier 1 (some .boolean), Cond.constant RX0 22 (65520), Cond.methodLink RX0 48 yX0_placeByte, Cond.instanceMethod yX0_placeByte, Cond.selects RX0 yX0_placeByte yX0_placeByte, Cond.code yX0_placeByte cX0_placeByte 5 none, Cond.constant RX0 51 (65280), Cond.methodLink RX0 38 yX0_wordAt, Cond.instanceMethod yX0_wordAt, Cond.selects RX0 yX0_wordAt yX0_wordAt]
def wsX2_run_r3 : List Cond := [Cond.code yX0_wordAt cX0_wordAt 2 (some .int), Cond.fieldLink RX0 9 "LowPowerCpu$Memory" "cells" "[J", Cond.constant RX0 37 (65535), Cond.methodLink RX0 27 yX0_slotOf, Cond.static yX0_slotOf, Cond.code yX0_slotOf cX0_slotOf 1 (some .int), Cond.instanceMethod yX1_wordAtSlot, Cond.initialized RX1, Cond.selects RX1 yX1_wordAtSlot yX1_wordAtSlot, Cond.code yX1_wordAtSlot cX1_wordAtSlot 2 (some .int), Cond.fieldLink RX1 13 "LowPowerCpu$Multiplier" "two" "I", Cond.fieldLink RX1 16 "LowPowerCpu$Multiplier" "low" "I", Cond.fieldLink RX1 19 "LowPowerCpu$Multiplier" "high" "I", Cond.fieldLink RX1 22 "LowPowerCpu$Multiplier" "extra" "I", Cond.fieldLink RX1 7 "LowPowerCpu$Multiplier" "one" "I", Cond.methodLink RX0 34 yX0_cellOf, Cond.static yX0_cellOf, Cond.code yX0_cellOf cX0_cellOf 1 (some .int), Cond.instanceMethod yX1_placeWordAtSlot, Cond.selects RX1 yX1_placeWordAtSlot yX1_placeWordAtSlot, Cond.code yX1_placeWordAtSlot cX1_placeWordAtSlot 3 none, Cond.methodLink RX0 45 yX0_placeWord, Cond.instanceMethod yX0_placeWord, Cond.selects RX0 yX0_placeWord yX0_placeWord]
def wsX2_run_r4 : List Cond := [Cond.code yX0_placeWord cX0_placeWord 5 none, Cond.constantLong RX0 55 (65535), Cond.constantLong RX0 57 (-1), Cond.instanceMethod yX1_write, Cond.selects RX1 yX1_write yX1_write, Cond.code yX1_write cX1_write 3 none, Cond.fieldLink RX1 25 "LowPowerCpu$Multiplier" "way" "I", Cond.methodLink RX1 28 yX1_placeWordAtSlot, Cond.methodLink RX1 32 yX1_multiply, Cond.instanceMethod yX1_multiply, Cond.selects RX1 yX1_multiply yX1_multiply, Cond.code yX1_multiply cX1_multiply 9 none, Cond.constant RX1 35 (65535), Cond.constant RX1 36 (32768), Cond.constantLong RX1 37 (4294967295), Cond.instanceMethod yX0_writeWord, Cond.selects RX0 yX0_writeWord yX0_writeWord, Cond.code yX0_writeWord cX0_writeWord 3 none, Cond.methodLink RX2 93 yX2_spend, Cond.instanceMethod yX2_spend, Cond.selects RX2 yX2_spend yX2_spend, Cond.code yX2_spend cX2_spend 2 none, Cond.fieldLink RX2 27 "LowPowerCpu" "cycles" "I", Cond.constant RX2 194 (1073741823)]
def wsX2_run_r5 : List Cond := [Cond.methodLink RX2 58 yX2_isUnassigned, Cond.static yX2_isUnassigned, Cond.code yX2_isUnassigned cX2_isUnassigned 3 (some .boolean), Cond.methodLink RX2 65 yX2_doTwoParts, Cond.instanceMethod yX2_doTwoParts, Cond.selects RX2 yX2_doTwoParts yX2_doTwoParts, Cond.code yX2_doTwoParts cX2_doTwoParts 9 none, Cond.methodLink RX2 96 yX2_sourcePlace, Cond.instanceMethod yX2_sourcePlace, Cond.selects RX2 yX2_sourcePlace yX2_sourcePlace, Cond.code yX2_sourcePlace cX2_sourcePlace 6 (some .int), Cond.constant RX2 148 (131072), Cond.constant RX2 48 (65536), Cond.methodLink RX2 150 yX2_indexedPlace, Cond.instanceMethod yX2_indexedPlace, Cond.selects RX2 yX2_indexedPlace yX2_indexedPlace, Cond.code yX2_indexedPlace cX2_indexedPlace 4 (some .int), Cond.methodLink RX2 100 yX2_valueAt, Cond.instanceMethod yX2_valueAt, Cond.selects RX2 yX2_valueAt yX2_valueAt, Cond.code yX2_valueAt cX2_valueAt 4 (some .int), Cond.instanceMethod yX0_byteAt, Cond.selects RX0 yX0_byteAt yX0_byteAt, Cond.code yX0_byteAt cX0_byteAt 3 (some .int)]
def wsX2_run_r6 : List Cond := [Cond.methodLink RX2 104 yX2_destinationPlace, Cond.instanceMethod yX2_destinationPlace, Cond.selects RX2 yX2_destinationPlace yX2_destinationPlace, Cond.code yX2_destinationPlace cX2_destinationPlace 3 (some .int), Cond.methodLink RX2 107 yX2_combine, Cond.instanceMethod yX2_combine, Cond.selects RX2 yX2_combine yX2_combine, Cond.code yX2_combine cX2_combine 6 (some .int), Cond.methodLink RX2 159 yX2_add, Cond.instanceMethod yX2_add, Cond.selects RX2 yX2_add yX2_add, Cond.code yX2_add cX2_add 8 (some .int), Cond.methodLink RX2 167 yX2_isHighestSet, Cond.static yX2_isHighestSet, Cond.code yX2_isHighestSet cX2_isHighestSet 2 (some .boolean), Cond.methodLink RX2 175 yX2_setFlags, Cond.instanceMethod yX2_setFlags, Cond.selects RX2 yX2_setFlags yX2_setFlags, Cond.code yX2_setFlags cX2_setFlags 6 none, Cond.methodLink RX2 163 yX2_addDecimal, Cond.instanceMethod yX2_addDecimal, Cond.selects RX2 yX2_addDecimal yX2_addDecimal, Cond.code yX2_addDecimal cX2_addDecimal 8 (some .int), Cond.methodLink RX2 171 yX2_logical]
def wsX2_run_r7 : List Cond := [Cond.instanceMethod yX2_logical, Cond.selects RX2 yX2_logical yX2_logical, Cond.code yX2_logical cX2_logical 4 (some .int), Cond.methodLink RX2 111 yX2_put, Cond.instanceMethod yX2_put, Cond.selects RX2 yX2_put yX2_put, Cond.code yX2_put cX2_put 4 none, Cond.methodLink RX2 115 yX2_twoPartsCycles, Cond.static yX2_twoPartsCycles, Cond.code yX2_twoPartsCycles cX2_twoPartsCycles 1 (some (.array .int)), Cond.fieldLink RX2 185 "LowPowerCpu" "TO_MEMORY_CYCLES" "[I", Cond.fieldLink RX2 188 "LowPowerCpu" "TO_PC_CYCLES" "[I", Cond.fieldLink RX2 191 "LowPowerCpu" "TO_REGISTER_CYCLES" "[I", Cond.methodLink RX2 119 yX2_kindOfSource, Cond.static yX2_kindOfSource, Cond.code yX2_kindOfSource cX2_kindOfSource 2 (some .int), Cond.fieldLink RX2 182 "LowPowerCpu" "KIND_OF_WAY" "[I", Cond.methodLink RX2 122 yX2_spendByKind, Cond.instanceMethod yX2_spendByKind, Cond.selects RX2 yX2_spendByKind yX2_spendByKind, Cond.code yX2_spendByKind cX2_spendByKind 3 none, Cond.methodLink RX2 69 yX2_doJump, Cond.instanceMethod yX2_doJump, Cond.selects RX2 yX2_doJump yX2_doJump]
def wsX2_run_r8 : List Cond := [Cond.code yX2_doJump cX2_doJump 3 none, Cond.methodLink RX2 139 yX2_isJumpTaken, Cond.instanceMethod yX2_isJumpTaken, Cond.selects RX2 yX2_isJumpTaken yX2_isJumpTaken, Cond.code yX2_isJumpTaken cX2_isJumpTaken 3 (some .boolean), Cond.methodLink RX2 142 yX2_isSet, Cond.instanceMethod yX2_isSet, Cond.selects RX2 yX2_isSet yX2_isSet, Cond.code yX2_isSet cX2_isSet 2 (some .boolean), Cond.methodLink RX2 72 yX2_returnFromInterrupt, Cond.instanceMethod yX2_returnFromInterrupt, Cond.selects RX2 yX2_returnFromInterrupt yX2_returnFromInterrupt, Cond.code yX2_returnFromInterrupt cX2_returnFromInterrupt 1 none, Cond.methodLink RX2 145 yX2_pop, Cond.instanceMethod yX2_pop, Cond.selects RX2 yX2_pop yX2_pop, Cond.code yX2_pop cX2_pop 2 (some .int), Cond.methodLink RX2 75 yX2_doOnePart, Cond.instanceMethod yX2_doOnePart, Cond.selects RX2 yX2_doOnePart yX2_doOnePart, Cond.code yX2_doOnePart cX2_doOnePart 7 none, Cond.fieldLink RX2 126 "LowPowerCpu" "PUSH_CYCLES" "[I", Cond.fieldLink RX2 129 "LowPowerCpu" "CALL_CYCLES" "[I", Cond.fieldLink RX2 136 "LowPowerCpu" "CHANGE_CYCLES" "[I"]
def wsX2_run_r9 : List Cond := [Cond.methodLink RX2 132 yX2_change, Cond.instanceMethod yX2_change, Cond.selects RX2 yX2_change yX2_change, Cond.code yX2_change cX2_change 6 (some .int), Cond.methodLink RX2 179 yX2_shifted, Cond.instanceMethod yX2_shifted, Cond.selects RX2 yX2_shifted yX2_shifted, Cond.code yX2_shifted cX2_shifted 5 (some .int)]
def wsX2_run : List Cond := .code yX2_run cX2_run 4 (some .int) :: ((wsX2_run_r1 ++ (wsX2_run_r2 ++ (wsX2_run_r3 ++ (wsX2_run_r4 ++ (wsX2_run_r5 ++ (wsX2_run_r6 ++ (wsX2_run_r7 ++ (wsX2_run_r8 ++ wsX2_run_r9)))))))) ++ wsX20 ++ wsX00 ++ wsX10)
def wsX2_reg : List Cond := .code yX2_reg cX2_reg 2 (some .int) :: ([.fieldLink RX2 16 "LowPowerCpu" "registers" "[I"] ++ wsX20)
def wsX2_raise : List Cond := .code yX2_raise cX2_raise 2 (some .boolean) :: ([.fieldLink RX2 23 "LowPowerCpu" "pendingLines" "I"] ++ wsX20)
def wsX2_cyclesOf : List Cond := .code yX2_cyclesOf cX2_cyclesOf 1 (some .int) :: ([.fieldLink RX2 27 "LowPowerCpu" "cycles" "I"] ++ wsX20)
def wsX2_pending : List Cond := .code yX2_pending cX2_pending 1 (some .int) :: ([.fieldLink RX2 23 "LowPowerCpu" "pendingLines" "I"] ++ wsX20)
def wsX2_mode : List Cond := .code yX2_mode cX2_mode 1 (some .int) :: ([.fieldLink RX2 12 "LowPowerCpu" "memory" "LLowPowerCpu$Memory;"] ++ wsX20 ++ wsX00 ++ wsX10)
def wsX3_isMultiplier : List Cond := .code yX3_isMultiplier cX3_isMultiplier 1 (some .boolean) :: ([])
def wsX3_which : List Cond := .code yX3_which cX3_which 1 (some .int) :: ([])
def wsX3_wordAt : List Cond := .code yX3_wordAt cX3_wordAt 2 (some .int) :: ([.fieldLink RX3 18 "LowPowerCpuModel" "by" "[I", .fieldLink RX3 8 "LowPowerCpuModel" "words" "[S", .constant RX3 50 (65535), .methodLink RX3 43 yX3_isMultiplier, .static yX3_isMultiplier, .initialized RX3, .code yX3_isMultiplier cX3_isMultiplier 1 (some .boolean), .methodLink RX3 47 yX3_which, .static yX3_which, .code yX3_which cX3_which 1 (some .int)] ++ wsX30)
def wsX3_setRegister : List Cond := .code yX3_setRegister cX3_setRegister 3 none :: ([.fieldLink RX3 14 "LowPowerCpuModel" "\x72" "[I", .constant RX3 34 (65534), .constant RX3 50 (65535)] ++ wsX30)
def wsX3_init_ : List Cond := .code yX3_init_ cX3_init_ 2 none :: ([.fieldLink RX3 14 "LowPowerCpuModel" "\x72" "[I", .fieldLink RX3 18 "LowPowerCpuModel" "by" "[I", .fieldLink RX3 24 "LowPowerCpuModel" "how" "I", .fieldLink RX3 28 "LowPowerCpuModel" "lines" "I", .fieldLink RX3 31 "LowPowerCpuModel" "cycles" "I", .constant RX3 34 (65534), .methodLink RX3 35 yX3_wordAt, .instanceMethod yX3_wordAt, .selects RX3 yX3_wordAt yX3_wordAt, .initialized RX3, .code yX3_wordAt cX3_wordAt 2 (some .int), .fieldLink RX3 8 "LowPowerCpuModel" "words" "[S", .constant RX3 50 (65535), .methodLink RX3 43 yX3_isMultiplier, .static yX3_isMultiplier, .code yX3_isMultiplier cX3_isMultiplier 1 (some .boolean), .methodLink RX3 47 yX3_which, .static yX3_which, .code yX3_which cX3_which 1 (some .int), .methodLink RX3 39 yX3_setRegister, .instanceMethod yX3_setRegister, .selects RX3 yX3_setRegister yX3_setRegister, .code yX3_setRegister cX3_setRegister 3 none] ++ wsX30)
def wsX3_init_r1 : List Cond := [Cond.methodLink RX3 1 objectInit, Cond.instanceMethod objectInit, Cond.code objectInit ⟨#[0xb1]⟩ 1 none, Cond.constant RX3 7 (32768), Cond.arrayClass .short, Cond.fieldLink RX3 8 "LowPowerCpuModel" "words" "[S", Cond.arrayClass .int, Cond.fieldLink RX3 14 "LowPowerCpuModel" "\x72" "[I", Cond.fieldLink RX3 18 "LowPowerCpuModel" "by" "[I", Cond.methodLink RX3 21 yX3_init_, Cond.instanceMethod yX3_init_, Cond.selects RX3 yX3_init_ yX3_init_, Cond.initialized RX3, Cond.code yX3_init_ cX3_init_ 2 none, Cond.fieldLink RX3 24 "LowPowerCpuModel" "how" "I", Cond.fieldLink RX3 28 "LowPowerCpuModel" "lines" "I", Cond.fieldLink RX3 31 "LowPowerCpuModel" "cycles" "I", Cond.constant RX3 34 (65534), Cond.methodLink RX3 35 yX3_wordAt, Cond.instanceMethod yX3_wordAt, Cond.selects RX3 yX3_wordAt yX3_wordAt, Cond.code yX3_wordAt cX3_wordAt 2 (some .int), Cond.constant RX3 50 (65535), Cond.methodLink RX3 43 yX3_isMultiplier]
def wsX3_init_r2 : List Cond := [Cond.static yX3_isMultiplier, Cond.code yX3_isMultiplier cX3_isMultiplier 1 (some .boolean), Cond.methodLink RX3 47 yX3_which, Cond.static yX3_which, Cond.code yX3_which cX3_which 1 (some .int), Cond.methodLink RX3 39 yX3_setRegister, Cond.instanceMethod yX3_setRegister, Cond.selects RX3 yX3_setRegister yX3_setRegister, Cond.code yX3_setRegister cX3_setRegister 3 none]
def wsX3_init : List Cond := .code yX3_init cX3_init 1 none :: ((wsX3_init_r1 ++ wsX3_init_r2) ++ wsX30)
def wsX3_byteAt : List Cond := .code yX3_byteAt cX3_byteAt 2 (some .int) :: ([.methodLink RX3 35 yX3_wordAt, .instanceMethod yX3_wordAt, .selects RX3 yX3_wordAt yX3_wordAt, .initialized RX3, .code yX3_wordAt cX3_wordAt 2 (some .int), .fieldLink RX3 18 "LowPowerCpuModel" "by" "[I", .fieldLink RX3 8 "LowPowerCpuModel" "words" "[S", .constant RX3 50 (65535), .methodLink RX3 43 yX3_isMultiplier, .static yX3_isMultiplier, .code yX3_isMultiplier cX3_isMultiplier 1 (some .boolean), .methodLink RX3 47 yX3_which, .static yX3_which, .code yX3_which cX3_which 1 (some .int)] ++ wsX30)
def wsX3_valueAt : List Cond := .code yX3_valueAt cX3_valueAt 2 (some .int) :: ([.fieldLink RX3 51 "LowPowerCpuModel" "bytes" "Z", .methodLink RX3 55 yX3_byteAt, .instanceMethod yX3_byteAt, .selects RX3 yX3_byteAt yX3_byteAt, .initialized RX3, .code yX3_byteAt cX3_byteAt 2 (some .int), .methodLink RX3 35 yX3_wordAt, .instanceMethod yX3_wordAt, .selects RX3 yX3_wordAt yX3_wordAt, .code yX3_wordAt cX3_wordAt 2 (some .int), .fieldLink RX3 18 "LowPowerCpuModel" "by" "[I", .fieldLink RX3 8 "LowPowerCpuModel" "words" "[S", .constant RX3 50 (65535), .methodLink RX3 43 yX3_isMultiplier, .static yX3_isMultiplier, .code yX3_isMultiplier cX3_isMultiplier 1 (some .boolean), .methodLink RX3 47 yX3_which, .static yX3_which, .code yX3_which cX3_which 1 (some .int)] ++ wsX30)
def wsX3_withByte : List Cond := .code yX3_withByte cX3_withByte 3 (some .int) :: ([.constant RX3 58 (65280)])
def wsX3_product : List Cond := .code yX3_product cX3_product 11 none :: ([.fieldLink RX3 24 "LowPowerCpuModel" "how" "I", .fieldLink RX3 18 "LowPowerCpuModel" "by" "[I", .constantLong RX3 69 (4294967295), .constantLong RX3 71 (65535), .constant RX3 50 (65535)] ++ wsX30)
def wsX3_multiply : List Cond := .code yX3_multiply cX3_multiply 3 none :: ([.fieldLink RX3 18 "LowPowerCpuModel" "by" "[I", .fieldLink RX3 24 "LowPowerCpuModel" "how" "I", .methodLink RX3 66 yX3_product, .instanceMethod yX3_product, .selects RX3 yX3_product yX3_product, .initialized RX3, .code yX3_product cX3_product 11 none, .constantLong RX3 69 (4294967295), .constantLong RX3 71 (65535), .constant RX3 50 (65535)] ++ wsX30)
def wsX3_setWord : List Cond := .code yX3_setWord cX3_setWord 3 none :: ([.fieldLink RX3 8 "LowPowerCpuModel" "words" "[S", .methodLink RX3 43 yX3_isMultiplier, .static yX3_isMultiplier, .initialized RX3, .code yX3_isMultiplier cX3_isMultiplier 1 (some .boolean), .methodLink RX3 59 yX3_multiply, .instanceMethod yX3_multiply, .selects RX3 yX3_multiply yX3_multiply, .code yX3_multiply cX3_multiply 3 none, .fieldLink RX3 18 "LowPowerCpuModel" "by" "[I", .fieldLink RX3 24 "LowPowerCpuModel" "how" "I", .methodLink RX3 66 yX3_product, .instanceMethod yX3_product, .selects RX3 yX3_product yX3_product, .code yX3_product cX3_product 11 none, .constantLong RX3 69 (4294967295), .constantLong RX3 71 (65535), .constant RX3 50 (65535)] ++ wsX30)
def wsX3_setByte : List Cond := .code yX3_setByte cX3_setByte 3 none :: ([.fieldLink RX3 8 "LowPowerCpuModel" "words" "[S", .constant RX3 50 (65535), .methodLink RX3 43 yX3_isMultiplier, .static yX3_isMultiplier, .initialized RX3, .code yX3_isMultiplier cX3_isMultiplier 1 (some .boolean), .methodLink RX3 62 yX3_withByte, .static yX3_withByte, .code yX3_withByte cX3_withByte 3 (some .int), .constant RX3 58 (65280), .methodLink RX3 59 yX3_multiply, .instanceMethod yX3_multiply, .selects RX3 yX3_multiply yX3_multiply, .code yX3_multiply cX3_multiply 3 none, .fieldLink RX3 18 "LowPowerCpuModel" "by" "[I", .fieldLink RX3 24 "LowPowerCpuModel" "how" "I", .methodLink RX3 66 yX3_product, .instanceMethod yX3_product, .selects RX3 yX3_product yX3_product, .code yX3_product cX3_product 11 none, .constantLong RX3 69 (4294967295), .constantLong RX3 71 (65535)] ++ wsX30)
def wsX3_write_r1 : List Cond := [Cond.constant RX3 73 (65536), Cond.fieldLink RX3 51 "LowPowerCpuModel" "bytes" "Z", Cond.methodLink RX3 39 yX3_setRegister, Cond.instanceMethod yX3_setRegister, Cond.selects RX3 yX3_setRegister yX3_setRegister, Cond.initialized RX3, Cond.code yX3_setRegister cX3_setRegister 3 none, Cond.fieldLink RX3 14 "LowPowerCpuModel" "\x72" "[I", Cond.constant RX3 34 (65534), Cond.constant RX3 50 (65535), Cond.methodLink RX3 74 yX3_setByte, Cond.instanceMethod yX3_setByte, Cond.selects RX3 yX3_setByte yX3_setByte, Cond.code yX3_setByte cX3_setByte 3 none, Cond.fieldLink RX3 8 "LowPowerCpuModel" "words" "[S", Cond.methodLink RX3 43 yX3_isMultiplier, Cond.static yX3_isMultiplier, Cond.code yX3_isMultiplier cX3_isMultiplier 1 (some .boolean), Cond.methodLink RX3 62 yX3_withByte, Cond.static yX3_withByte, Cond.code yX3_withByte cX3_withByte 3 (some .int), Cond.constant RX3 58 (65280), Cond.methodLink RX3 59 yX3_multiply, Cond.instanceMethod yX3_multiply]
def wsX3_write_r2 : List Cond := [Cond.selects RX3 yX3_multiply yX3_multiply, Cond.code yX3_multiply cX3_multiply 3 none, Cond.fieldLink RX3 18 "LowPowerCpuModel" "by" "[I", Cond.fieldLink RX3 24 "LowPowerCpuModel" "how" "I", Cond.methodLink RX3 66 yX3_product, Cond.instanceMethod yX3_product, Cond.selects RX3 yX3_product yX3_product, Cond.code yX3_product cX3_product 11 none, Cond.constantLong RX3 69 (4294967295), Cond.constantLong RX3 71 (65535), Cond.methodLink RX3 77 yX3_setWord, Cond.instanceMethod yX3_setWord, Cond.selects RX3 yX3_setWord yX3_setWord, Cond.code yX3_setWord cX3_setWord 3 none]
def wsX3_write : List Cond := .code yX3_write cX3_write 3 none :: ((wsX3_write_r1 ++ wsX3_write_r2) ++ wsX30)
def wsX3_taken : List Cond := .code yX3_taken cX3_taken 2 (some .int) :: ([.fieldLink RX3 14 "LowPowerCpuModel" "\x72" "[I", .methodLink RX3 35 yX3_wordAt, .instanceMethod yX3_wordAt, .selects RX3 yX3_wordAt yX3_wordAt, .initialized RX3, .code yX3_wordAt cX3_wordAt 2 (some .int), .fieldLink RX3 18 "LowPowerCpuModel" "by" "[I", .fieldLink RX3 8 "LowPowerCpuModel" "words" "[S", .constant RX3 50 (65535), .methodLink RX3 43 yX3_isMultiplier, .static yX3_isMultiplier, .code yX3_isMultiplier cX3_isMultiplier 1 (some .boolean), .methodLink RX3 47 yX3_which, .static yX3_which, .code yX3_which cX3_which 1 (some .int), .methodLink RX3 39 yX3_setRegister, .instanceMethod yX3_setRegister, .selects RX3 yX3_setRegister yX3_setRegister, .code yX3_setRegister cX3_setRegister 3 none, .constant RX3 34 (65534)] ++ wsX30)
def wsX3_number : List Cond := .code yX3_number cX3_number 2 none :: ([.fieldLink RX3 51 "LowPowerCpuModel" "bytes" "Z", .fieldLink RX3 80 "LowPowerCpuModel" "part" "I", .fieldLink RX3 83 "LowPowerCpuModel" "where" "I"] ++ wsX30)
def wsX3_register : List Cond := .code yX3_register cX3_register 2 none :: ([.fieldLink RX3 51 "LowPowerCpuModel" "bytes" "Z", .fieldLink RX3 14 "LowPowerCpuModel" "\x72" "[I", .fieldLink RX3 80 "LowPowerCpuModel" "part" "I", .fieldLink RX3 83 "LowPowerCpuModel" "where" "I"] ++ wsX30)
def wsX3_memory_r1 : List Cond := [Cond.constant RX3 50 (65535), Cond.fieldLink RX3 80 "LowPowerCpuModel" "part" "I", Cond.constant RX3 73 (65536), Cond.fieldLink RX3 83 "LowPowerCpuModel" "where" "I", Cond.methodLink RX3 86 yX3_valueAt, Cond.instanceMethod yX3_valueAt, Cond.selects RX3 yX3_valueAt yX3_valueAt, Cond.initialized RX3, Cond.code yX3_valueAt cX3_valueAt 2 (some .int), Cond.fieldLink RX3 51 "LowPowerCpuModel" "bytes" "Z", Cond.methodLink RX3 55 yX3_byteAt, Cond.instanceMethod yX3_byteAt, Cond.selects RX3 yX3_byteAt yX3_byteAt, Cond.code yX3_byteAt cX3_byteAt 2 (some .int), Cond.methodLink RX3 35 yX3_wordAt, Cond.instanceMethod yX3_wordAt, Cond.selects RX3 yX3_wordAt yX3_wordAt, Cond.code yX3_wordAt cX3_wordAt 2 (some .int), Cond.fieldLink RX3 18 "LowPowerCpuModel" "by" "[I", Cond.fieldLink RX3 8 "LowPowerCpuModel" "words" "[S", Cond.methodLink RX3 43 yX3_isMultiplier, Cond.static yX3_isMultiplier, Cond.code yX3_isMultiplier cX3_isMultiplier 1 (some .boolean), Cond.methodLink RX3 47 yX3_which]
def wsX3_memory_r2 : List Cond := [Cond.static yX3_which, Cond.code yX3_which cX3_which 1 (some .int)]
def wsX3_memory : List Cond := .code yX3_memory cX3_memory 2 none :: ((wsX3_memory_r1 ++ wsX3_memory_r2) ++ wsX30)
def wsX3_indexed_r1 : List Cond := [Cond.fieldLink RX3 14 "LowPowerCpuModel" "\x72" "[I", Cond.methodLink RX3 89 yX3_taken, Cond.instanceMethod yX3_taken, Cond.selects RX3 yX3_taken yX3_taken, Cond.initialized RX3, Cond.code yX3_taken cX3_taken 2 (some .int), Cond.methodLink RX3 35 yX3_wordAt, Cond.instanceMethod yX3_wordAt, Cond.selects RX3 yX3_wordAt yX3_wordAt, Cond.code yX3_wordAt cX3_wordAt 2 (some .int), Cond.fieldLink RX3 18 "LowPowerCpuModel" "by" "[I", Cond.fieldLink RX3 8 "LowPowerCpuModel" "words" "[S", Cond.constant RX3 50 (65535), Cond.methodLink RX3 43 yX3_isMultiplier, Cond.static yX3_isMultiplier, Cond.code yX3_isMultiplier cX3_isMultiplier 1 (some .boolean), Cond.methodLink RX3 47 yX3_which, Cond.static yX3_which, Cond.code yX3_which cX3_which 1 (some .int), Cond.methodLink RX3 39 yX3_setRegister, Cond.instanceMethod yX3_setRegister, Cond.selects RX3 yX3_setRegister yX3_setRegister, Cond.code yX3_setRegister cX3_setRegister 3 none, Cond.constant RX3 34 (65534)]
def wsX3_indexed_r2 : List Cond := [Cond.methodLink RX3 93 yX3_memory, Cond.instanceMethod yX3_memory, Cond.selects RX3 yX3_memory yX3_memory, Cond.code yX3_memory cX3_memory 2 none, Cond.fieldLink RX3 80 "LowPowerCpuModel" "part" "I", Cond.constant RX3 73 (65536), Cond.fieldLink RX3 83 "LowPowerCpuModel" "where" "I", Cond.methodLink RX3 86 yX3_valueAt, Cond.instanceMethod yX3_valueAt, Cond.selects RX3 yX3_valueAt yX3_valueAt, Cond.code yX3_valueAt cX3_valueAt 2 (some .int), Cond.fieldLink RX3 51 "LowPowerCpuModel" "bytes" "Z", Cond.methodLink RX3 55 yX3_byteAt, Cond.instanceMethod yX3_byteAt, Cond.selects RX3 yX3_byteAt yX3_byteAt, Cond.code yX3_byteAt cX3_byteAt 2 (some .int)]
def wsX3_indexed : List Cond := .code yX3_indexed cX3_indexed 3 none :: ((wsX3_indexed_r1 ++ wsX3_indexed_r2) ++ wsX30)
def wsX3_source_r1 : List Cond := [Cond.constant RX3 50 (65535), Cond.fieldLink RX3 14 "LowPowerCpuModel" "\x72" "[I", Cond.fieldLink RX3 51 "LowPowerCpuModel" "bytes" "Z", Cond.methodLink RX3 97 yX3_register, Cond.instanceMethod yX3_register, Cond.selects RX3 yX3_register yX3_register, Cond.initialized RX3, Cond.code yX3_register cX3_register 2 none, Cond.fieldLink RX3 80 "LowPowerCpuModel" "part" "I", Cond.fieldLink RX3 83 "LowPowerCpuModel" "where" "I", Cond.methodLink RX3 100 yX3_indexed, Cond.instanceMethod yX3_indexed, Cond.selects RX3 yX3_indexed yX3_indexed, Cond.code yX3_indexed cX3_indexed 3 none, Cond.methodLink RX3 89 yX3_taken, Cond.instanceMethod yX3_taken, Cond.selects RX3 yX3_taken yX3_taken, Cond.code yX3_taken cX3_taken 2 (some .int), Cond.methodLink RX3 35 yX3_wordAt, Cond.instanceMethod yX3_wordAt, Cond.selects RX3 yX3_wordAt yX3_wordAt, Cond.code yX3_wordAt cX3_wordAt 2 (some .int), Cond.fieldLink RX3 18 "LowPowerCpuModel" "by" "[I", Cond.fieldLink RX3 8 "LowPowerCpuModel" "words" "[S"]
def wsX3_source_r2 : List Cond := [Cond.methodLink RX3 43 yX3_isMultiplier, Cond.static yX3_isMultiplier, Cond.code yX3_isMultiplier cX3_isMultiplier 1 (some .boolean), Cond.methodLink RX3 47 yX3_which, Cond.static yX3_which, Cond.code yX3_which cX3_which 1 (some .int), Cond.methodLink RX3 39 yX3_setRegister, Cond.instanceMethod yX3_setRegister, Cond.selects RX3 yX3_setRegister yX3_setRegister, Cond.code yX3_setRegister cX3_setRegister 3 none, Cond.constant RX3 34 (65534), Cond.methodLink RX3 93 yX3_memory, Cond.instanceMethod yX3_memory, Cond.selects RX3 yX3_memory yX3_memory, Cond.code yX3_memory cX3_memory 2 none, Cond.constant RX3 73 (65536), Cond.methodLink RX3 86 yX3_valueAt, Cond.instanceMethod yX3_valueAt, Cond.selects RX3 yX3_valueAt yX3_valueAt, Cond.code yX3_valueAt cX3_valueAt 2 (some .int), Cond.methodLink RX3 55 yX3_byteAt, Cond.instanceMethod yX3_byteAt, Cond.selects RX3 yX3_byteAt yX3_byteAt, Cond.code yX3_byteAt cX3_byteAt 2 (some .int)]
def wsX3_source_r3 : List Cond := [Cond.methodLink RX3 103 yX3_number, Cond.instanceMethod yX3_number, Cond.selects RX3 yX3_number yX3_number, Cond.code yX3_number cX3_number 2 none]
def wsX3_source : List Cond := .code yX3_source cX3_source 3 none :: ((wsX3_source_r1 ++ (wsX3_source_r2 ++ wsX3_source_r3)) ++ wsX30)
def wsX3_sort : List Cond := .code yX3_sort cX3_sort 2 (some .int) :: ([])
def wsX3_pick : List Cond := .code yX3_pick cX3_pick 2 (some .int) :: ([])
def wsX3_spend : List Cond := .code yX3_spend cX3_spend 2 none :: ([.fieldLink RX3 31 "LowPowerCpuModel" "cycles" "I", .constant RX3 106 (1073741823)] ++ wsX30)
def wsX3_flag : List Cond := .code yX3_flag cX3_flag 2 (some .int) :: ([.fieldLink RX3 14 "LowPowerCpuModel" "\x72" "[I"] ++ wsX30)
def wsX3_setFlag : List Cond := .code yX3_setFlag cX3_setFlag 3 none :: ([.fieldLink RX3 14 "LowPowerCpuModel" "\x72" "[I"] ++ wsX30)
def wsX3_high : List Cond := .code yX3_high cX3_high 1 (some .int) :: ([.fieldLink RX3 51 "LowPowerCpuModel" "bytes" "Z", .constant RX3 7 (32768)] ++ wsX30)
def wsX3_all : List Cond := .code yX3_all cX3_all 1 (some .int) :: ([.fieldLink RX3 51 "LowPowerCpuModel" "bytes" "Z", .constant RX3 50 (65535)] ++ wsX30)
def wsX3_flags : List Cond := .code yX3_flags cX3_flags 4 none :: ([.methodLink RX3 107 yX3_setFlag, .instanceMethod yX3_setFlag, .selects RX3 yX3_setFlag yX3_setFlag, .initialized RX3, .code yX3_setFlag cX3_setFlag 3 none, .fieldLink RX3 14 "LowPowerCpuModel" "\x72" "[I", .methodLink RX3 111 yX3_high, .instanceMethod yX3_high, .selects RX3 yX3_high yX3_high, .code yX3_high cX3_high 1 (some .int), .fieldLink RX3 51 "LowPowerCpuModel" "bytes" "Z", .constant RX3 7 (32768)] ++ wsX30)
def wsX3_sum : List Cond := .code yX3_sum cX3_sum 6 (some .int) :: ([.methodLink RX3 114 yX3_all, .instanceMethod yX3_all, .selects RX3 yX3_all yX3_all, .initialized RX3, .code yX3_all cX3_all 1 (some .int), .fieldLink RX3 51 "LowPowerCpuModel" "bytes" "Z", .constant RX3 50 (65535), .methodLink RX3 111 yX3_high, .instanceMethod yX3_high, .selects RX3 yX3_high yX3_high, .code yX3_high cX3_high 1 (some .int), .constant RX3 7 (32768), .methodLink RX3 117 yX3_flags, .instanceMethod yX3_flags, .selects RX3 yX3_flags yX3_flags, .code yX3_flags cX3_flags 4 none, .methodLink RX3 107 yX3_setFlag, .instanceMethod yX3_setFlag, .selects RX3 yX3_setFlag yX3_setFlag, .code yX3_setFlag cX3_setFlag 3 none, .fieldLink RX3 14 "LowPowerCpuModel" "\x72" "[I"] ++ wsX30)
def wsX3_decimal : List Cond := .code yX3_decimal cX3_decimal 7 (some .int) :: ([.fieldLink RX3 51 "LowPowerCpuModel" "bytes" "Z", .methodLink RX3 121 yX3_flag, .instanceMethod yX3_flag, .selects RX3 yX3_flag yX3_flag, .initialized RX3, .code yX3_flag cX3_flag 2 (some .int), .fieldLink RX3 14 "LowPowerCpuModel" "\x72" "[I", .methodLink RX3 117 yX3_flags, .instanceMethod yX3_flags, .selects RX3 yX3_flags yX3_flags, .code yX3_flags cX3_flags 4 none, .methodLink RX3 107 yX3_setFlag, .instanceMethod yX3_setFlag, .selects RX3 yX3_setFlag yX3_setFlag, .code yX3_setFlag cX3_setFlag 3 none, .methodLink RX3 111 yX3_high, .instanceMethod yX3_high, .selects RX3 yX3_high yX3_high, .code yX3_high cX3_high 1 (some .int), .constant RX3 7 (32768)] ++ wsX30)
def wsX3_joined_r1 : List Cond := [Cond.methodLink RX3 114 yX3_all, Cond.instanceMethod yX3_all, Cond.selects RX3 yX3_all yX3_all, Cond.initialized RX3, Cond.code yX3_all cX3_all 1 (some .int), Cond.fieldLink RX3 51 "LowPowerCpuModel" "bytes" "Z", Cond.constant RX3 50 (65535), Cond.methodLink RX3 124 yX3_sum, Cond.instanceMethod yX3_sum, Cond.selects RX3 yX3_sum yX3_sum, Cond.code yX3_sum cX3_sum 6 (some .int), Cond.methodLink RX3 111 yX3_high, Cond.instanceMethod yX3_high, Cond.selects RX3 yX3_high yX3_high, Cond.code yX3_high cX3_high 1 (some .int), Cond.constant RX3 7 (32768), Cond.methodLink RX3 117 yX3_flags, Cond.instanceMethod yX3_flags, Cond.selects RX3 yX3_flags yX3_flags, Cond.code yX3_flags cX3_flags 4 none, Cond.methodLink RX3 107 yX3_setFlag, Cond.instanceMethod yX3_setFlag, Cond.selects RX3 yX3_setFlag yX3_setFlag, Cond.code yX3_setFlag cX3_setFlag 3 none]
def wsX3_joined_r2 : List Cond := [Cond.fieldLink RX3 14 "LowPowerCpuModel" "\x72" "[I", Cond.methodLink RX3 121 yX3_flag, Cond.instanceMethod yX3_flag, Cond.selects RX3 yX3_flag yX3_flag, Cond.code yX3_flag cX3_flag 2 (some .int), Cond.methodLink RX3 127 yX3_decimal, Cond.instanceMethod yX3_decimal, Cond.selects RX3 yX3_decimal yX3_decimal, Cond.code yX3_decimal cX3_decimal 7 (some .int)]
def wsX3_joined : List Cond := .code yX3_joined cX3_joined 6 (some .int) :: ((wsX3_joined_r1 ++ wsX3_joined_r2) ++ wsX30)
def wsX3_twoParts_r1 : List Cond := [Cond.fieldLink RX3 80 "LowPowerCpuModel" "part" "I", Cond.fieldLink RX3 83 "LowPowerCpuModel" "where" "I", Cond.methodLink RX3 131 yX3_source, Cond.instanceMethod yX3_source, Cond.selects RX3 yX3_source yX3_source, Cond.initialized RX3, Cond.code yX3_source cX3_source 3 none, Cond.constant RX3 50 (65535), Cond.fieldLink RX3 14 "LowPowerCpuModel" "\x72" "[I", Cond.fieldLink RX3 51 "LowPowerCpuModel" "bytes" "Z", Cond.methodLink RX3 97 yX3_register, Cond.instanceMethod yX3_register, Cond.selects RX3 yX3_register yX3_register, Cond.code yX3_register cX3_register 2 none, Cond.methodLink RX3 100 yX3_indexed, Cond.instanceMethod yX3_indexed, Cond.selects RX3 yX3_indexed yX3_indexed, Cond.code yX3_indexed cX3_indexed 3 none, Cond.methodLink RX3 89 yX3_taken, Cond.instanceMethod yX3_taken, Cond.selects RX3 yX3_taken yX3_taken, Cond.code yX3_taken cX3_taken 2 (some .int), Cond.methodLink RX3 35 yX3_wordAt, Cond.instanceMethod yX3_wordAt]
def wsX3_twoParts_r2 : List Cond := [Cond.selects RX3 yX3_wordAt yX3_wordAt, Cond.code yX3_wordAt cX3_wordAt 2 (some .int), Cond.fieldLink RX3 18 "LowPowerCpuModel" "by" "[I", Cond.fieldLink RX3 8 "LowPowerCpuModel" "words" "[S", Cond.methodLink RX3 43 yX3_isMultiplier, Cond.static yX3_isMultiplier, Cond.code yX3_isMultiplier cX3_isMultiplier 1 (some .boolean), Cond.methodLink RX3 47 yX3_which, Cond.static yX3_which, Cond.code yX3_which cX3_which 1 (some .int), Cond.methodLink RX3 39 yX3_setRegister, Cond.instanceMethod yX3_setRegister, Cond.selects RX3 yX3_setRegister yX3_setRegister, Cond.code yX3_setRegister cX3_setRegister 3 none, Cond.constant RX3 34 (65534), Cond.methodLink RX3 93 yX3_memory, Cond.instanceMethod yX3_memory, Cond.selects RX3 yX3_memory yX3_memory, Cond.code yX3_memory cX3_memory 2 none, Cond.constant RX3 73 (65536), Cond.methodLink RX3 86 yX3_valueAt, Cond.instanceMethod yX3_valueAt, Cond.selects RX3 yX3_valueAt yX3_valueAt, Cond.code yX3_valueAt cX3_valueAt 2 (some .int)]
def wsX3_twoParts_r3 : List Cond := [Cond.methodLink RX3 55 yX3_byteAt, Cond.instanceMethod yX3_byteAt, Cond.selects RX3 yX3_byteAt yX3_byteAt, Cond.code yX3_byteAt cX3_byteAt 2 (some .int), Cond.methodLink RX3 103 yX3_number, Cond.instanceMethod yX3_number, Cond.selects RX3 yX3_number yX3_number, Cond.code yX3_number cX3_number 2 none, Cond.methodLink RX3 134 yX3_joined, Cond.instanceMethod yX3_joined, Cond.selects RX3 yX3_joined yX3_joined, Cond.code yX3_joined cX3_joined 6 (some .int), Cond.methodLink RX3 114 yX3_all, Cond.instanceMethod yX3_all, Cond.selects RX3 yX3_all yX3_all, Cond.code yX3_all cX3_all 1 (some .int), Cond.methodLink RX3 124 yX3_sum, Cond.instanceMethod yX3_sum, Cond.selects RX3 yX3_sum yX3_sum, Cond.code yX3_sum cX3_sum 6 (some .int), Cond.methodLink RX3 111 yX3_high, Cond.instanceMethod yX3_high, Cond.selects RX3 yX3_high yX3_high, Cond.code yX3_high cX3_high 1 (some .int)]
def wsX3_twoParts_r4 : List Cond := [Cond.constant RX3 7 (32768), Cond.methodLink RX3 117 yX3_flags, Cond.instanceMethod yX3_flags, Cond.selects RX3 yX3_flags yX3_flags, Cond.code yX3_flags cX3_flags 4 none, Cond.methodLink RX3 107 yX3_setFlag, Cond.instanceMethod yX3_setFlag, Cond.selects RX3 yX3_setFlag yX3_setFlag, Cond.code yX3_setFlag cX3_setFlag 3 none, Cond.methodLink RX3 121 yX3_flag, Cond.instanceMethod yX3_flag, Cond.selects RX3 yX3_flag yX3_flag, Cond.code yX3_flag cX3_flag 2 (some .int), Cond.methodLink RX3 127 yX3_decimal, Cond.instanceMethod yX3_decimal, Cond.selects RX3 yX3_decimal yX3_decimal, Cond.code yX3_decimal cX3_decimal 7 (some .int), Cond.methodLink RX3 137 yX3_write, Cond.instanceMethod yX3_write, Cond.selects RX3 yX3_write yX3_write, Cond.code yX3_write cX3_write 3 none, Cond.methodLink RX3 74 yX3_setByte, Cond.instanceMethod yX3_setByte, Cond.selects RX3 yX3_setByte yX3_setByte]
def wsX3_twoParts_r5 : List Cond := [Cond.code yX3_setByte cX3_setByte 3 none, Cond.methodLink RX3 62 yX3_withByte, Cond.static yX3_withByte, Cond.code yX3_withByte cX3_withByte 3 (some .int), Cond.constant RX3 58 (65280), Cond.methodLink RX3 59 yX3_multiply, Cond.instanceMethod yX3_multiply, Cond.selects RX3 yX3_multiply yX3_multiply, Cond.code yX3_multiply cX3_multiply 3 none, Cond.fieldLink RX3 24 "LowPowerCpuModel" "how" "I", Cond.methodLink RX3 66 yX3_product, Cond.instanceMethod yX3_product, Cond.selects RX3 yX3_product yX3_product, Cond.code yX3_product cX3_product 11 none, Cond.constantLong RX3 69 (4294967295), Cond.constantLong RX3 71 (65535), Cond.methodLink RX3 77 yX3_setWord, Cond.instanceMethod yX3_setWord, Cond.selects RX3 yX3_setWord yX3_setWord, Cond.code yX3_setWord cX3_setWord 3 none, Cond.methodLink RX3 140 yX3_sort, Cond.static yX3_sort, Cond.code yX3_sort cX3_sort 2 (some .int), Cond.methodLink RX3 143 yX3_pick]
def wsX3_twoParts_r6 : List Cond := [Cond.static yX3_pick, Cond.code yX3_pick cX3_pick 2 (some .int), Cond.methodLink RX3 146 yX3_spend, Cond.instanceMethod yX3_spend, Cond.selects RX3 yX3_spend yX3_spend, Cond.code yX3_spend cX3_spend 2 none, Cond.fieldLink RX3 31 "LowPowerCpuModel" "cycles" "I", Cond.constant RX3 106 (1073741823)]
def wsX3_twoParts : List Cond := .code yX3_twoParts cX3_twoParts 9 none :: ((wsX3_twoParts_r1 ++ (wsX3_twoParts_r2 ++ (wsX3_twoParts_r3 ++ (wsX3_twoParts_r4 ++ (wsX3_twoParts_r5 ++ wsX3_twoParts_r6))))) ++ wsX30)
def wsX3_push_r1 : List Cond := [Cond.fieldLink RX3 14 "LowPowerCpuModel" "\x72" "[I", Cond.constant RX3 73 (65536), Cond.methodLink RX3 39 yX3_setRegister, Cond.instanceMethod yX3_setRegister, Cond.selects RX3 yX3_setRegister yX3_setRegister, Cond.initialized RX3, Cond.code yX3_setRegister cX3_setRegister 3 none, Cond.constant RX3 34 (65534), Cond.constant RX3 50 (65535), Cond.methodLink RX3 137 yX3_write, Cond.instanceMethod yX3_write, Cond.selects RX3 yX3_write yX3_write, Cond.code yX3_write cX3_write 3 none, Cond.fieldLink RX3 51 "LowPowerCpuModel" "bytes" "Z", Cond.methodLink RX3 74 yX3_setByte, Cond.instanceMethod yX3_setByte, Cond.selects RX3 yX3_setByte yX3_setByte, Cond.code yX3_setByte cX3_setByte 3 none, Cond.fieldLink RX3 8 "LowPowerCpuModel" "words" "[S", Cond.methodLink RX3 43 yX3_isMultiplier, Cond.static yX3_isMultiplier, Cond.code yX3_isMultiplier cX3_isMultiplier 1 (some .boolean), Cond.methodLink RX3 62 yX3_withByte, Cond.static yX3_withByte]
def wsX3_push_r2 : List Cond := [Cond.code yX3_withByte cX3_withByte 3 (some .int), Cond.constant RX3 58 (65280), Cond.methodLink RX3 59 yX3_multiply, Cond.instanceMethod yX3_multiply, Cond.selects RX3 yX3_multiply yX3_multiply, Cond.code yX3_multiply cX3_multiply 3 none, Cond.fieldLink RX3 18 "LowPowerCpuModel" "by" "[I", Cond.fieldLink RX3 24 "LowPowerCpuModel" "how" "I", Cond.methodLink RX3 66 yX3_product, Cond.instanceMethod yX3_product, Cond.selects RX3 yX3_product yX3_product, Cond.code yX3_product cX3_product 11 none, Cond.constantLong RX3 69 (4294967295), Cond.constantLong RX3 71 (65535), Cond.methodLink RX3 77 yX3_setWord, Cond.instanceMethod yX3_setWord, Cond.selects RX3 yX3_setWord yX3_setWord, Cond.code yX3_setWord cX3_setWord 3 none]
def wsX3_push : List Cond := .code yX3_push cX3_push 2 none :: ((wsX3_push_r1 ++ wsX3_push_r2) ++ wsX30)
def wsX3_popped : List Cond := .code yX3_popped cX3_popped 2 (some .int) :: ([.fieldLink RX3 14 "LowPowerCpuModel" "\x72" "[I", .methodLink RX3 35 yX3_wordAt, .instanceMethod yX3_wordAt, .selects RX3 yX3_wordAt yX3_wordAt, .initialized RX3, .code yX3_wordAt cX3_wordAt 2 (some .int), .fieldLink RX3 18 "LowPowerCpuModel" "by" "[I", .fieldLink RX3 8 "LowPowerCpuModel" "words" "[S", .constant RX3 50 (65535), .methodLink RX3 43 yX3_isMultiplier, .static yX3_isMultiplier, .code yX3_isMultiplier cX3_isMultiplier 1 (some .boolean), .methodLink RX3 47 yX3_which, .static yX3_which, .code yX3_which cX3_which 1 (some .int), .methodLink RX3 39 yX3_setRegister, .instanceMethod yX3_setRegister, .selects RX3 yX3_setRegister yX3_setRegister, .code yX3_setRegister cX3_setRegister 3 none, .constant RX3 34 (65534)] ++ wsX30)
def wsX3_shifted_r1 : List Cond := [Cond.fieldLink RX3 80 "LowPowerCpuModel" "part" "I", Cond.fieldLink RX3 83 "LowPowerCpuModel" "where" "I", Cond.constant RX3 50 (65535), Cond.methodLink RX3 137 yX3_write, Cond.instanceMethod yX3_write, Cond.selects RX3 yX3_write yX3_write, Cond.initialized RX3, Cond.code yX3_write cX3_write 3 none, Cond.constant RX3 73 (65536), Cond.fieldLink RX3 51 "LowPowerCpuModel" "bytes" "Z", Cond.methodLink RX3 39 yX3_setRegister, Cond.instanceMethod yX3_setRegister, Cond.selects RX3 yX3_setRegister yX3_setRegister, Cond.code yX3_setRegister cX3_setRegister 3 none, Cond.fieldLink RX3 14 "LowPowerCpuModel" "\x72" "[I", Cond.constant RX3 34 (65534), Cond.methodLink RX3 74 yX3_setByte, Cond.instanceMethod yX3_setByte, Cond.selects RX3 yX3_setByte yX3_setByte, Cond.code yX3_setByte cX3_setByte 3 none, Cond.fieldLink RX3 8 "LowPowerCpuModel" "words" "[S", Cond.methodLink RX3 43 yX3_isMultiplier, Cond.static yX3_isMultiplier, Cond.code yX3_isMultiplier cX3_isMultiplier 1 (some .boolean)]
def wsX3_shifted_r2 : List Cond := [Cond.methodLink RX3 62 yX3_withByte, Cond.static yX3_withByte, Cond.code yX3_withByte cX3_withByte 3 (some .int), Cond.constant RX3 58 (65280), Cond.methodLink RX3 59 yX3_multiply, Cond.instanceMethod yX3_multiply, Cond.selects RX3 yX3_multiply yX3_multiply, Cond.code yX3_multiply cX3_multiply 3 none, Cond.fieldLink RX3 18 "LowPowerCpuModel" "by" "[I", Cond.fieldLink RX3 24 "LowPowerCpuModel" "how" "I", Cond.methodLink RX3 66 yX3_product, Cond.instanceMethod yX3_product, Cond.selects RX3 yX3_product yX3_product, Cond.code yX3_product cX3_product 11 none, Cond.constantLong RX3 69 (4294967295), Cond.constantLong RX3 71 (65535), Cond.methodLink RX3 77 yX3_setWord, Cond.instanceMethod yX3_setWord, Cond.selects RX3 yX3_setWord yX3_setWord, Cond.code yX3_setWord cX3_setWord 3 none, Cond.methodLink RX3 121 yX3_flag, Cond.instanceMethod yX3_flag, Cond.selects RX3 yX3_flag yX3_flag, Cond.code yX3_flag cX3_flag 2 (some .int)]
def wsX3_shifted_r3 : List Cond := [Cond.methodLink RX3 111 yX3_high, Cond.instanceMethod yX3_high, Cond.selects RX3 yX3_high yX3_high, Cond.code yX3_high cX3_high 1 (some .int), Cond.constant RX3 7 (32768), Cond.methodLink RX3 117 yX3_flags, Cond.instanceMethod yX3_flags, Cond.selects RX3 yX3_flags yX3_flags, Cond.code yX3_flags cX3_flags 4 none, Cond.methodLink RX3 107 yX3_setFlag, Cond.instanceMethod yX3_setFlag, Cond.selects RX3 yX3_setFlag yX3_setFlag, Cond.code yX3_setFlag cX3_setFlag 3 none]
def wsX3_shifted : List Cond := .code yX3_shifted cX3_shifted 5 none :: ((wsX3_shifted_r1 ++ (wsX3_shifted_r2 ++ wsX3_shifted_r3)) ++ wsX30)
def wsX3_onePart_r1 : List Cond := [Cond.fieldLink RX3 80 "LowPowerCpuModel" "part" "I", Cond.fieldLink RX3 14 "LowPowerCpuModel" "\x72" "[I", Cond.methodLink RX3 149 yX3_popped, Cond.instanceMethod yX3_popped, Cond.selects RX3 yX3_popped yX3_popped, Cond.initialized RX3, Cond.code yX3_popped cX3_popped 2 (some .int), Cond.methodLink RX3 35 yX3_wordAt, Cond.instanceMethod yX3_wordAt, Cond.selects RX3 yX3_wordAt yX3_wordAt, Cond.code yX3_wordAt cX3_wordAt 2 (some .int), Cond.fieldLink RX3 18 "LowPowerCpuModel" "by" "[I", Cond.fieldLink RX3 8 "LowPowerCpuModel" "words" "[S", Cond.constant RX3 50 (65535), Cond.methodLink RX3 43 yX3_isMultiplier, Cond.static yX3_isMultiplier, Cond.code yX3_isMultiplier cX3_isMultiplier 1 (some .boolean), Cond.methodLink RX3 47 yX3_which, Cond.static yX3_which, Cond.code yX3_which cX3_which 1 (some .int), Cond.methodLink RX3 39 yX3_setRegister, Cond.instanceMethod yX3_setRegister, Cond.selects RX3 yX3_setRegister yX3_setRegister, Cond.code yX3_setRegister cX3_setRegister 3 none]
def wsX3_onePart_r2 : List Cond := [Cond.constant RX3 34 (65534), Cond.methodLink RX3 146 yX3_spend, Cond.instanceMethod yX3_spend, Cond.selects RX3 yX3_spend yX3_spend, Cond.code yX3_spend cX3_spend 2 none, Cond.fieldLink RX3 31 "LowPowerCpuModel" "cycles" "I", Cond.constant RX3 106 (1073741823), Cond.methodLink RX3 131 yX3_source, Cond.instanceMethod yX3_source, Cond.selects RX3 yX3_source yX3_source, Cond.code yX3_source cX3_source 3 none, Cond.fieldLink RX3 51 "LowPowerCpuModel" "bytes" "Z", Cond.methodLink RX3 97 yX3_register, Cond.instanceMethod yX3_register, Cond.selects RX3 yX3_register yX3_register, Cond.code yX3_register cX3_register 2 none, Cond.fieldLink RX3 83 "LowPowerCpuModel" "where" "I", Cond.methodLink RX3 100 yX3_indexed, Cond.instanceMethod yX3_indexed, Cond.selects RX3 yX3_indexed yX3_indexed, Cond.code yX3_indexed cX3_indexed 3 none, Cond.methodLink RX3 89 yX3_taken, Cond.instanceMethod yX3_taken, Cond.selects RX3 yX3_taken yX3_taken]
def wsX3_onePart_r3 : List Cond := [Cond.code yX3_taken cX3_taken 2 (some .int), Cond.methodLink RX3 93 yX3_memory, Cond.instanceMethod yX3_memory, Cond.selects RX3 yX3_memory yX3_memory, Cond.code yX3_memory cX3_memory 2 none, Cond.constant RX3 73 (65536), Cond.methodLink RX3 86 yX3_valueAt, Cond.instanceMethod yX3_valueAt, Cond.selects RX3 yX3_valueAt yX3_valueAt, Cond.code yX3_valueAt cX3_valueAt 2 (some .int), Cond.methodLink RX3 55 yX3_byteAt, Cond.instanceMethod yX3_byteAt, Cond.selects RX3 yX3_byteAt yX3_byteAt, Cond.code yX3_byteAt cX3_byteAt 2 (some .int), Cond.methodLink RX3 103 yX3_number, Cond.instanceMethod yX3_number, Cond.selects RX3 yX3_number yX3_number, Cond.code yX3_number cX3_number 2 none, Cond.methodLink RX3 140 yX3_sort, Cond.static yX3_sort, Cond.code yX3_sort cX3_sort 2 (some .int), Cond.methodLink RX3 152 yX3_shifted, Cond.instanceMethod yX3_shifted, Cond.selects RX3 yX3_shifted yX3_shifted]
def wsX3_onePart_r4 : List Cond := [Cond.code yX3_shifted cX3_shifted 5 none, Cond.methodLink RX3 137 yX3_write, Cond.instanceMethod yX3_write, Cond.selects RX3 yX3_write yX3_write, Cond.code yX3_write cX3_write 3 none, Cond.methodLink RX3 74 yX3_setByte, Cond.instanceMethod yX3_setByte, Cond.selects RX3 yX3_setByte yX3_setByte, Cond.code yX3_setByte cX3_setByte 3 none, Cond.methodLink RX3 62 yX3_withByte, Cond.static yX3_withByte, Cond.code yX3_withByte cX3_withByte 3 (some .int), Cond.constant RX3 58 (65280), Cond.methodLink RX3 59 yX3_multiply, Cond.instanceMethod yX3_multiply, Cond.selects RX3 yX3_multiply yX3_multiply, Cond.code yX3_multiply cX3_multiply 3 none, Cond.fieldLink RX3 24 "LowPowerCpuModel" "how" "I", Cond.methodLink RX3 66 yX3_product, Cond.instanceMethod yX3_product, Cond.selects RX3 yX3_product yX3_product, Cond.code yX3_product cX3_product 11 none, Cond.constantLong RX3 69 (4294967295), Cond.constantLong RX3 71 (65535)]
def wsX3_onePart_r5 : List Cond := [Cond.methodLink RX3 77 yX3_setWord, Cond.instanceMethod yX3_setWord, Cond.selects RX3 yX3_setWord yX3_setWord, Cond.code yX3_setWord cX3_setWord 3 none, Cond.methodLink RX3 121 yX3_flag, Cond.instanceMethod yX3_flag, Cond.selects RX3 yX3_flag yX3_flag, Cond.code yX3_flag cX3_flag 2 (some .int), Cond.methodLink RX3 111 yX3_high, Cond.instanceMethod yX3_high, Cond.selects RX3 yX3_high yX3_high, Cond.code yX3_high cX3_high 1 (some .int), Cond.constant RX3 7 (32768), Cond.methodLink RX3 117 yX3_flags, Cond.instanceMethod yX3_flags, Cond.selects RX3 yX3_flags yX3_flags, Cond.code yX3_flags cX3_flags 4 none, Cond.methodLink RX3 107 yX3_setFlag, Cond.instanceMethod yX3_setFlag, Cond.selects RX3 yX3_setFlag yX3_setFlag, Cond.code yX3_setFlag cX3_setFlag 3 none, Cond.methodLink RX3 143 yX3_pick, Cond.static yX3_pick, Cond.code yX3_pick cX3_pick 2 (some .int)]
def wsX3_onePart_r6 : List Cond := [Cond.methodLink RX3 155 yX3_push, Cond.instanceMethod yX3_push, Cond.selects RX3 yX3_push yX3_push, Cond.code yX3_push cX3_push 2 none]
def wsX3_onePart : List Cond := .code yX3_onePart cX3_onePart 7 none :: ((wsX3_onePart_r1 ++ (wsX3_onePart_r2 ++ (wsX3_onePart_r3 ++ (wsX3_onePart_r4 ++ (wsX3_onePart_r5 ++ wsX3_onePart_r6))))) ++ wsX30)
def wsX3_jumps : List Cond := .code yX3_jumps cX3_jumps 2 (some .boolean) :: ([.methodLink RX3 121 yX3_flag, .instanceMethod yX3_flag, .selects RX3 yX3_flag yX3_flag, .initialized RX3, .code yX3_flag cX3_flag 2 (some .int), .fieldLink RX3 14 "LowPowerCpuModel" "\x72" "[I"] ++ wsX30)
def wsX3_jump : List Cond := .code yX3_jump cX3_jump 3 none :: ([.fieldLink RX3 14 "LowPowerCpuModel" "\x72" "[I", .methodLink RX3 158 yX3_jumps, .instanceMethod yX3_jumps, .selects RX3 yX3_jumps yX3_jumps, .initialized RX3, .code yX3_jumps cX3_jumps 2 (some .boolean), .methodLink RX3 121 yX3_flag, .instanceMethod yX3_flag, .selects RX3 yX3_flag yX3_flag, .code yX3_flag cX3_flag 2 (some .int), .methodLink RX3 39 yX3_setRegister, .instanceMethod yX3_setRegister, .selects RX3 yX3_setRegister yX3_setRegister, .code yX3_setRegister cX3_setRegister 3 none, .constant RX3 34 (65534), .constant RX3 50 (65535), .methodLink RX3 146 yX3_spend, .instanceMethod yX3_spend, .selects RX3 yX3_spend yX3_spend, .code yX3_spend cX3_spend 2 none, .fieldLink RX3 31 "LowPowerCpuModel" "cycles" "I", .constant RX3 106 (1073741823)] ++ wsX30)
def wsX3_isAssigned : List Cond := .code yX3_isAssigned cX3_isAssigned 2 (some .boolean) :: ([])
def wsX3_interrupt_r1 : List Cond := [Cond.fieldLink RX3 28 "LowPowerCpuModel" "lines" "I", Cond.fieldLink RX3 51 "LowPowerCpuModel" "bytes" "Z", Cond.fieldLink RX3 14 "LowPowerCpuModel" "\x72" "[I", Cond.constant RX3 161 (65504), Cond.methodLink RX3 155 yX3_push, Cond.instanceMethod yX3_push, Cond.selects RX3 yX3_push yX3_push, Cond.initialized RX3, Cond.code yX3_push cX3_push 2 none, Cond.constant RX3 73 (65536), Cond.methodLink RX3 39 yX3_setRegister, Cond.instanceMethod yX3_setRegister, Cond.selects RX3 yX3_setRegister yX3_setRegister, Cond.code yX3_setRegister cX3_setRegister 3 none, Cond.constant RX3 34 (65534), Cond.constant RX3 50 (65535), Cond.methodLink RX3 137 yX3_write, Cond.instanceMethod yX3_write, Cond.selects RX3 yX3_write yX3_write, Cond.code yX3_write cX3_write 3 none, Cond.methodLink RX3 74 yX3_setByte, Cond.instanceMethod yX3_setByte, Cond.selects RX3 yX3_setByte yX3_setByte, Cond.code yX3_setByte cX3_setByte 3 none]
def wsX3_interrupt_r2 : List Cond := [Cond.fieldLink RX3 8 "LowPowerCpuModel" "words" "[S", Cond.methodLink RX3 43 yX3_isMultiplier, Cond.static yX3_isMultiplier, Cond.code yX3_isMultiplier cX3_isMultiplier 1 (some .boolean), Cond.methodLink RX3 62 yX3_withByte, Cond.static yX3_withByte, Cond.code yX3_withByte cX3_withByte 3 (some .int), Cond.constant RX3 58 (65280), Cond.methodLink RX3 59 yX3_multiply, Cond.instanceMethod yX3_multiply, Cond.selects RX3 yX3_multiply yX3_multiply, Cond.code yX3_multiply cX3_multiply 3 none, Cond.fieldLink RX3 18 "LowPowerCpuModel" "by" "[I", Cond.fieldLink RX3 24 "LowPowerCpuModel" "how" "I", Cond.methodLink RX3 66 yX3_product, Cond.instanceMethod yX3_product, Cond.selects RX3 yX3_product yX3_product, Cond.code yX3_product cX3_product 11 none, Cond.constantLong RX3 69 (4294967295), Cond.constantLong RX3 71 (65535), Cond.methodLink RX3 77 yX3_setWord, Cond.instanceMethod yX3_setWord, Cond.selects RX3 yX3_setWord yX3_setWord, Cond.code yX3_setWord cX3_setWord 3 none]
def wsX3_interrupt_r3 : List Cond := [Cond.methodLink RX3 35 yX3_wordAt, Cond.instanceMethod yX3_wordAt, Cond.selects RX3 yX3_wordAt yX3_wordAt, Cond.code yX3_wordAt cX3_wordAt 2 (some .int), Cond.methodLink RX3 47 yX3_which, Cond.static yX3_which, Cond.code yX3_which cX3_which 1 (some .int), Cond.methodLink RX3 146 yX3_spend, Cond.instanceMethod yX3_spend, Cond.selects RX3 yX3_spend yX3_spend, Cond.code yX3_spend cX3_spend 2 none, Cond.fieldLink RX3 31 "LowPowerCpuModel" "cycles" "I", Cond.constant RX3 106 (1073741823)]
def wsX3_interrupt : List Cond := .code yX3_interrupt cX3_interrupt 2 none :: ((wsX3_interrupt_r1 ++ (wsX3_interrupt_r2 ++ wsX3_interrupt_r3)) ++ wsX30)
def wsX3_step_r1 : List Cond := [Cond.fieldLink RX3 28 "LowPowerCpuModel" "lines" "I", Cond.fieldLink RX3 14 "LowPowerCpuModel" "\x72" "[I", Cond.fieldLink RX3 51 "LowPowerCpuModel" "bytes" "Z", Cond.methodLink RX3 121 yX3_flag, Cond.instanceMethod yX3_flag, Cond.selects RX3 yX3_flag yX3_flag, Cond.initialized RX3, Cond.code yX3_flag cX3_flag 2 (some .int), Cond.methodLink RX3 162 yX3_interrupt, Cond.instanceMethod yX3_interrupt, Cond.selects RX3 yX3_interrupt yX3_interrupt, Cond.code yX3_interrupt cX3_interrupt 2 none, Cond.constant RX3 161 (65504), Cond.methodLink RX3 155 yX3_push, Cond.instanceMethod yX3_push, Cond.selects RX3 yX3_push yX3_push, Cond.code yX3_push cX3_push 2 none, Cond.constant RX3 73 (65536), Cond.methodLink RX3 39 yX3_setRegister, Cond.instanceMethod yX3_setRegister, Cond.selects RX3 yX3_setRegister yX3_setRegister, Cond.code yX3_setRegister cX3_setRegister 3 none, Cond.constant RX3 34 (65534), Cond.constant RX3 50 (65535)]
def wsX3_step_r2 : List Cond := [Cond.methodLink RX3 137 yX3_write, Cond.instanceMethod yX3_write, Cond.selects RX3 yX3_write yX3_write, Cond.code yX3_write cX3_write 3 none, Cond.methodLink RX3 74 yX3_setByte, Cond.instanceMethod yX3_setByte, Cond.selects RX3 yX3_setByte yX3_setByte, Cond.code yX3_setByte cX3_setByte 3 none, Cond.fieldLink RX3 8 "LowPowerCpuModel" "words" "[S", Cond.methodLink RX3 43 yX3_isMultiplier, Cond.static yX3_isMultiplier, Cond.code yX3_isMultiplier cX3_isMultiplier 1 (some .boolean), Cond.methodLink RX3 62 yX3_withByte, Cond.static yX3_withByte, Cond.code yX3_withByte cX3_withByte 3 (some .int), Cond.constant RX3 58 (65280), Cond.methodLink RX3 59 yX3_multiply, Cond.instanceMethod yX3_multiply, Cond.selects RX3 yX3_multiply yX3_multiply, Cond.code yX3_multiply cX3_multiply 3 none, Cond.fieldLink RX3 18 "LowPowerCpuModel" "by" "[I", Cond.fieldLink RX3 24 "LowPowerCpuModel" "how" "I", Cond.methodLink RX3 66 yX3_product, Cond.instanceMethod yX3_product]
def wsX3_step_r3 : List Cond := [Cond.selects RX3 yX3_product yX3_product, Cond.code yX3_product cX3_product 11 none, Cond.constantLong RX3 69 (4294967295), Cond.constantLong RX3 71 (65535), Cond.methodLink RX3 77 yX3_setWord, Cond.instanceMethod yX3_setWord, Cond.selects RX3 yX3_setWord yX3_setWord, Cond.code yX3_setWord cX3_setWord 3 none, Cond.methodLink RX3 35 yX3_wordAt, Cond.instanceMethod yX3_wordAt, Cond.selects RX3 yX3_wordAt yX3_wordAt, Cond.code yX3_wordAt cX3_wordAt 2 (some .int), Cond.methodLink RX3 47 yX3_which, Cond.static yX3_which, Cond.code yX3_which cX3_which 1 (some .int), Cond.methodLink RX3 146 yX3_spend, Cond.instanceMethod yX3_spend, Cond.selects RX3 yX3_spend yX3_spend, Cond.code yX3_spend cX3_spend 2 none, Cond.fieldLink RX3 31 "LowPowerCpuModel" "cycles" "I", Cond.constant RX3 106 (1073741823), Cond.methodLink RX3 165 yX3_isAssigned, Cond.static yX3_isAssigned, Cond.code yX3_isAssigned cX3_isAssigned 2 (some .boolean)]
def wsX3_step_r4 : List Cond := [Cond.methodLink RX3 89 yX3_taken, Cond.instanceMethod yX3_taken, Cond.selects RX3 yX3_taken yX3_taken, Cond.code yX3_taken cX3_taken 2 (some .int), Cond.methodLink RX3 168 yX3_twoParts, Cond.instanceMethod yX3_twoParts, Cond.selects RX3 yX3_twoParts yX3_twoParts, Cond.code yX3_twoParts cX3_twoParts 9 none, Cond.fieldLink RX3 80 "LowPowerCpuModel" "part" "I", Cond.fieldLink RX3 83 "LowPowerCpuModel" "where" "I", Cond.methodLink RX3 131 yX3_source, Cond.instanceMethod yX3_source, Cond.selects RX3 yX3_source yX3_source, Cond.code yX3_source cX3_source 3 none, Cond.methodLink RX3 97 yX3_register, Cond.instanceMethod yX3_register, Cond.selects RX3 yX3_register yX3_register, Cond.code yX3_register cX3_register 2 none, Cond.methodLink RX3 100 yX3_indexed, Cond.instanceMethod yX3_indexed, Cond.selects RX3 yX3_indexed yX3_indexed, Cond.code yX3_indexed cX3_indexed 3 none, Cond.methodLink RX3 93 yX3_memory, Cond.instanceMethod yX3_memory]
def wsX3_step_r5 : List Cond := [Cond.selects RX3 yX3_memory yX3_memory, Cond.code yX3_memory cX3_memory 2 none, Cond.methodLink RX3 86 yX3_valueAt, Cond.instanceMethod yX3_valueAt, Cond.selects RX3 yX3_valueAt yX3_valueAt, Cond.code yX3_valueAt cX3_valueAt 2 (some .int), Cond.methodLink RX3 55 yX3_byteAt, Cond.instanceMethod yX3_byteAt, Cond.selects RX3 yX3_byteAt yX3_byteAt, Cond.code yX3_byteAt cX3_byteAt 2 (some .int), Cond.methodLink RX3 103 yX3_number, Cond.instanceMethod yX3_number, Cond.selects RX3 yX3_number yX3_number, Cond.code yX3_number cX3_number 2 none, Cond.methodLink RX3 134 yX3_joined, Cond.instanceMethod yX3_joined, Cond.selects RX3 yX3_joined yX3_joined, Cond.code yX3_joined cX3_joined 6 (some .int), Cond.methodLink RX3 114 yX3_all, Cond.instanceMethod yX3_all, Cond.selects RX3 yX3_all yX3_all, Cond.code yX3_all cX3_all 1 (some .int), Cond.methodLink RX3 124 yX3_sum, Cond.instanceMethod yX3_sum]
def wsX3_step_r6 : List Cond := [Cond.selects RX3 yX3_sum yX3_sum, Cond.code yX3_sum cX3_sum 6 (some .int), Cond.methodLink RX3 111 yX3_high, Cond.instanceMethod yX3_high, Cond.selects RX3 yX3_high yX3_high, Cond.code yX3_high cX3_high 1 (some .int), Cond.constant RX3 7 (32768), Cond.methodLink RX3 117 yX3_flags, Cond.instanceMethod yX3_flags, Cond.selects RX3 yX3_flags yX3_flags, Cond.code yX3_flags cX3_flags 4 none, Cond.methodLink RX3 107 yX3_setFlag, Cond.instanceMethod yX3_setFlag, Cond.selects RX3 yX3_setFlag yX3_setFlag, Cond.code yX3_setFlag cX3_setFlag 3 none, Cond.methodLink RX3 127 yX3_decimal, Cond.instanceMethod yX3_decimal, Cond.selects RX3 yX3_decimal yX3_decimal, Cond.code yX3_decimal cX3_decimal 7 (some .int), Cond.methodLink RX3 140 yX3_sort, Cond.static yX3_sort, Cond.code yX3_sort cX3_sort 2 (some .int), Cond.methodLink RX3 143 yX3_pick, Cond.static yX3_pick]
def wsX3_step_r7 : List Cond := [Cond.code yX3_pick cX3_pick 2 (some .int), Cond.methodLink RX3 171 yX3_jump, Cond.instanceMethod yX3_jump, Cond.selects RX3 yX3_jump yX3_jump, Cond.code yX3_jump cX3_jump 3 none, Cond.methodLink RX3 158 yX3_jumps, Cond.instanceMethod yX3_jumps, Cond.selects RX3 yX3_jumps yX3_jumps, Cond.code yX3_jumps cX3_jumps 2 (some .boolean), Cond.methodLink RX3 174 yX3_onePart, Cond.instanceMethod yX3_onePart, Cond.selects RX3 yX3_onePart yX3_onePart, Cond.code yX3_onePart cX3_onePart 7 none, Cond.methodLink RX3 149 yX3_popped, Cond.instanceMethod yX3_popped, Cond.selects RX3 yX3_popped yX3_popped, Cond.code yX3_popped cX3_popped 2 (some .int), Cond.methodLink RX3 152 yX3_shifted, Cond.instanceMethod yX3_shifted, Cond.selects RX3 yX3_shifted yX3_shifted, Cond.code yX3_shifted cX3_shifted 5 none]
def wsX3_step : List Cond := .code yX3_step cX3_step 2 (some .int) :: ((wsX3_step_r1 ++ (wsX3_step_r2 ++ (wsX3_step_r3 ++ (wsX3_step_r4 ++ (wsX3_step_r5 ++ (wsX3_step_r6 ++ wsX3_step_r7)))))) ++ wsX30)
def wsX3_run_r1 : List Cond := [Cond.methodLink RX3 177 yX3_step, Cond.instanceMethod yX3_step, Cond.selects RX3 yX3_step yX3_step, Cond.initialized RX3, Cond.code yX3_step cX3_step 2 (some .int), Cond.fieldLink RX3 28 "LowPowerCpuModel" "lines" "I", Cond.fieldLink RX3 14 "LowPowerCpuModel" "\x72" "[I", Cond.fieldLink RX3 51 "LowPowerCpuModel" "bytes" "Z", Cond.methodLink RX3 121 yX3_flag, Cond.instanceMethod yX3_flag, Cond.selects RX3 yX3_flag yX3_flag, Cond.code yX3_flag cX3_flag 2 (some .int), Cond.methodLink RX3 162 yX3_interrupt, Cond.instanceMethod yX3_interrupt, Cond.selects RX3 yX3_interrupt yX3_interrupt, Cond.code yX3_interrupt cX3_interrupt 2 none, Cond.constant RX3 161 (65504), Cond.methodLink RX3 155 yX3_push, Cond.instanceMethod yX3_push, Cond.selects RX3 yX3_push yX3_push, Cond.code yX3_push cX3_push 2 none, Cond.constant RX3 73 (65536), Cond.methodLink RX3 39 yX3_setRegister, Cond.instanceMethod yX3_setRegister]
def wsX3_run_r2 : List Cond := [Cond.selects RX3 yX3_setRegister yX3_setRegister, Cond.code yX3_setRegister cX3_setRegister 3 none, Cond.constant RX3 34 (65534), Cond.constant RX3 50 (65535), Cond.methodLink RX3 137 yX3_write, Cond.instanceMethod yX3_write, Cond.selects RX3 yX3_write yX3_write, Cond.code yX3_write cX3_write 3 none, Cond.methodLink RX3 74 yX3_setByte, Cond.instanceMethod yX3_setByte, Cond.selects RX3 yX3_setByte yX3_setByte, Cond.code yX3_setByte cX3_setByte 3 none, Cond.fieldLink RX3 8 "LowPowerCpuModel" "words" "[S", Cond.methodLink RX3 43 yX3_isMultiplier, Cond.static yX3_isMultiplier, Cond.code yX3_isMultiplier cX3_isMultiplier 1 (some .boolean), Cond.methodLink RX3 62 yX3_withByte, Cond.static yX3_withByte, Cond.code yX3_withByte cX3_withByte 3 (some .int), Cond.constant RX3 58 (65280), Cond.methodLink RX3 59 yX3_multiply, Cond.instanceMethod yX3_multiply, Cond.selects RX3 yX3_multiply yX3_multiply, Cond.code yX3_multiply cX3_multiply 3 none]
def wsX3_run_r3 : List Cond := [Cond.fieldLink RX3 18 "LowPowerCpuModel" "by" "[I", Cond.fieldLink RX3 24 "LowPowerCpuModel" "how" "I", Cond.methodLink RX3 66 yX3_product, Cond.instanceMethod yX3_product, Cond.selects RX3 yX3_product yX3_product, Cond.code yX3_product cX3_product 11 none, Cond.constantLong RX3 69 (4294967295), Cond.constantLong RX3 71 (65535), Cond.methodLink RX3 77 yX3_setWord, Cond.instanceMethod yX3_setWord, Cond.selects RX3 yX3_setWord yX3_setWord, Cond.code yX3_setWord cX3_setWord 3 none, Cond.methodLink RX3 35 yX3_wordAt, Cond.instanceMethod yX3_wordAt, Cond.selects RX3 yX3_wordAt yX3_wordAt, Cond.code yX3_wordAt cX3_wordAt 2 (some .int), Cond.methodLink RX3 47 yX3_which, Cond.static yX3_which, Cond.code yX3_which cX3_which 1 (some .int), Cond.methodLink RX3 146 yX3_spend, Cond.instanceMethod yX3_spend, Cond.selects RX3 yX3_spend yX3_spend, Cond.code yX3_spend cX3_spend 2 none, Cond.fieldLink RX3 31 "LowPowerCpuModel" "cycles" "I"]
def wsX3_run_r4 : List Cond := [Cond.constant RX3 106 (1073741823), Cond.methodLink RX3 165 yX3_isAssigned, Cond.static yX3_isAssigned, Cond.code yX3_isAssigned cX3_isAssigned 2 (some .boolean), Cond.methodLink RX3 89 yX3_taken, Cond.instanceMethod yX3_taken, Cond.selects RX3 yX3_taken yX3_taken, Cond.code yX3_taken cX3_taken 2 (some .int), Cond.methodLink RX3 168 yX3_twoParts, Cond.instanceMethod yX3_twoParts, Cond.selects RX3 yX3_twoParts yX3_twoParts, Cond.code yX3_twoParts cX3_twoParts 9 none, Cond.fieldLink RX3 80 "LowPowerCpuModel" "part" "I", Cond.fieldLink RX3 83 "LowPowerCpuModel" "where" "I", Cond.methodLink RX3 131 yX3_source, Cond.instanceMethod yX3_source, Cond.selects RX3 yX3_source yX3_source, Cond.code yX3_source cX3_source 3 none, Cond.methodLink RX3 97 yX3_register, Cond.instanceMethod yX3_register, Cond.selects RX3 yX3_register yX3_register, Cond.code yX3_register cX3_register 2 none, Cond.methodLink RX3 100 yX3_indexed, Cond.instanceMethod yX3_indexed]
def wsX3_run_r5 : List Cond := [Cond.selects RX3 yX3_indexed yX3_indexed, Cond.code yX3_indexed cX3_indexed 3 none, Cond.methodLink RX3 93 yX3_memory, Cond.instanceMethod yX3_memory, Cond.selects RX3 yX3_memory yX3_memory, Cond.code yX3_memory cX3_memory 2 none, Cond.methodLink RX3 86 yX3_valueAt, Cond.instanceMethod yX3_valueAt, Cond.selects RX3 yX3_valueAt yX3_valueAt, Cond.code yX3_valueAt cX3_valueAt 2 (some .int), Cond.methodLink RX3 55 yX3_byteAt, Cond.instanceMethod yX3_byteAt, Cond.selects RX3 yX3_byteAt yX3_byteAt, Cond.code yX3_byteAt cX3_byteAt 2 (some .int), Cond.methodLink RX3 103 yX3_number, Cond.instanceMethod yX3_number, Cond.selects RX3 yX3_number yX3_number, Cond.code yX3_number cX3_number 2 none, Cond.methodLink RX3 134 yX3_joined, Cond.instanceMethod yX3_joined, Cond.selects RX3 yX3_joined yX3_joined, Cond.code yX3_joined cX3_joined 6 (some .int), Cond.methodLink RX3 114 yX3_all, Cond.instanceMethod yX3_all]
def wsX3_run_r6 : List Cond := [Cond.selects RX3 yX3_all yX3_all, Cond.code yX3_all cX3_all 1 (some .int), Cond.methodLink RX3 124 yX3_sum, Cond.instanceMethod yX3_sum, Cond.selects RX3 yX3_sum yX3_sum, Cond.code yX3_sum cX3_sum 6 (some .int), Cond.methodLink RX3 111 yX3_high, Cond.instanceMethod yX3_high, Cond.selects RX3 yX3_high yX3_high, Cond.code yX3_high cX3_high 1 (some .int), Cond.constant RX3 7 (32768), Cond.methodLink RX3 117 yX3_flags, Cond.instanceMethod yX3_flags, Cond.selects RX3 yX3_flags yX3_flags, Cond.code yX3_flags cX3_flags 4 none, Cond.methodLink RX3 107 yX3_setFlag, Cond.instanceMethod yX3_setFlag, Cond.selects RX3 yX3_setFlag yX3_setFlag, Cond.code yX3_setFlag cX3_setFlag 3 none, Cond.methodLink RX3 127 yX3_decimal, Cond.instanceMethod yX3_decimal, Cond.selects RX3 yX3_decimal yX3_decimal, Cond.code yX3_decimal cX3_decimal 7 (some .int), Cond.methodLink RX3 140 yX3_sort]
def wsX3_run_r7 : List Cond := [Cond.static yX3_sort, Cond.code yX3_sort cX3_sort 2 (some .int), Cond.methodLink RX3 143 yX3_pick, Cond.static yX3_pick, Cond.code yX3_pick cX3_pick 2 (some .int), Cond.methodLink RX3 171 yX3_jump, Cond.instanceMethod yX3_jump, Cond.selects RX3 yX3_jump yX3_jump, Cond.code yX3_jump cX3_jump 3 none, Cond.methodLink RX3 158 yX3_jumps, Cond.instanceMethod yX3_jumps, Cond.selects RX3 yX3_jumps yX3_jumps, Cond.code yX3_jumps cX3_jumps 2 (some .boolean), Cond.methodLink RX3 174 yX3_onePart, Cond.instanceMethod yX3_onePart, Cond.selects RX3 yX3_onePart yX3_onePart, Cond.code yX3_onePart cX3_onePart 7 none, Cond.methodLink RX3 149 yX3_popped, Cond.instanceMethod yX3_popped, Cond.selects RX3 yX3_popped yX3_popped, Cond.code yX3_popped cX3_popped 2 (some .int), Cond.methodLink RX3 152 yX3_shifted, Cond.instanceMethod yX3_shifted, Cond.selects RX3 yX3_shifted yX3_shifted]
def wsX3_run_r8 : List Cond := [Cond.code yX3_shifted cX3_shifted 5 none]
def wsX3_run : List Cond := .code yX3_run cX3_run 4 (some .int) :: ((wsX3_run_r1 ++ (wsX3_run_r2 ++ (wsX3_run_r3 ++ (wsX3_run_r4 ++ (wsX3_run_r5 ++ (wsX3_run_r6 ++ (wsX3_run_r7 ++ wsX3_run_r8))))))) ++ wsX30)
def wsX3_isAddress : List Cond := .code yX3_isAddress cX3_isAddress 1 (some .boolean) :: ([.constant RX3 73 (65536)])
def wsX3_poke : List Cond := .code yX3_poke cX3_poke 3 (some .boolean) :: ([.fieldLink RX3 18 "LowPowerCpuModel" "by" "[I", .fieldLink RX3 8 "LowPowerCpuModel" "words" "[S", .constant RX3 50 (65535), .methodLink RX3 180 yX3_isAddress, .static yX3_isAddress, .initialized RX3, .code yX3_isAddress cX3_isAddress 1 (some .boolean), .constant RX3 73 (65536), .methodLink RX3 43 yX3_isMultiplier, .static yX3_isMultiplier, .code yX3_isMultiplier cX3_isMultiplier 1 (some .boolean), .methodLink RX3 47 yX3_which, .static yX3_which, .code yX3_which cX3_which 1 (some .int), .methodLink RX3 62 yX3_withByte, .static yX3_withByte, .code yX3_withByte cX3_withByte 3 (some .int), .constant RX3 58 (65280)] ++ wsX30)
def wsX3_peek : List Cond := .code yX3_peek cX3_peek 2 (some .int) :: ([.methodLink RX3 180 yX3_isAddress, .static yX3_isAddress, .initialized RX3, .code yX3_isAddress cX3_isAddress 1 (some .boolean), .constant RX3 73 (65536), .methodLink RX3 55 yX3_byteAt, .instanceMethod yX3_byteAt, .selects RX3 yX3_byteAt yX3_byteAt, .code yX3_byteAt cX3_byteAt 2 (some .int), .methodLink RX3 35 yX3_wordAt, .instanceMethod yX3_wordAt, .selects RX3 yX3_wordAt yX3_wordAt, .code yX3_wordAt cX3_wordAt 2 (some .int), .fieldLink RX3 18 "LowPowerCpuModel" "by" "[I", .fieldLink RX3 8 "LowPowerCpuModel" "words" "[S", .constant RX3 50 (65535), .methodLink RX3 43 yX3_isMultiplier, .static yX3_isMultiplier, .code yX3_isMultiplier cX3_isMultiplier 1 (some .boolean), .methodLink RX3 47 yX3_which, .static yX3_which, .code yX3_which cX3_which 1 (some .int)] ++ wsX30)
def wsX3_reg : List Cond := .code yX3_reg cX3_reg 2 (some .int) :: ([.fieldLink RX3 14 "LowPowerCpuModel" "\x72" "[I"] ++ wsX30)
def wsX3_raise : List Cond := .code yX3_raise cX3_raise 2 (some .boolean) :: ([.fieldLink RX3 28 "LowPowerCpuModel" "lines" "I"] ++ wsX30)
def wsX3_cyclesOf : List Cond := .code yX3_cyclesOf cX3_cyclesOf 1 (some .int) :: ([.fieldLink RX3 31 "LowPowerCpuModel" "cycles" "I"] ++ wsX30)
def wsX3_pending : List Cond := .code yX3_pending cX3_pending 1 (some .int) :: ([.fieldLink RX3 28 "LowPowerCpuModel" "lines" "I"] ++ wsX30)
def wsX3_mode : List Cond := .code yX3_mode cX3_mode 1 (some .int) :: ([.fieldLink RX3 24 "LowPowerCpuModel" "how" "I"] ++ wsX30)
def wsL_law_r1 : List Cond := [Cond.classLink RL 7 RX2, Cond.instantiable RX2 4, Cond.initialized RX2, Cond.classLink RL 10 RX3, Cond.instantiable RX3 9, Cond.initialized RX3, Cond.methodLink RL 9 yX2_init, Cond.instanceMethod yX2_init, Cond.code yX2_init cX2_init 1 none, Cond.methodLink RX2 3 objectInit, Cond.instanceMethod objectInit, Cond.code objectInit ⟨#[0xb1]⟩ 1 none, Cond.classLink RX2 9 RX0, Cond.instantiable RX0 2, Cond.initialized RX0, Cond.fieldLink RX2 12 "LowPowerCpu" "memory" "LLowPowerCpu$Memory;", Cond.arrayClass .int, Cond.fieldLink RX2 16 "LowPowerCpu" "registers" "[I", Cond.instanceMethod yX0_init, Cond.code yX0_init cX0_init 1 none, Cond.methodLink RX0 3 objectInit, Cond.arrayClass .long, Cond.fieldLink RX0 9 "LowPowerCpu$Memory" "cells" "[J", Cond.classLink RX0 15 RX1]
def wsL_law_r2 : List Cond := [Cond.instantiable RX1 6, Cond.initialized RX1, Cond.fieldLink RX0 18 "LowPowerCpu$Memory" "multiplier" "LLowPowerCpu$Multiplier;", Cond.instanceMethod yX1_init, Cond.code yX1_init cX1_init 1 none, Cond.methodLink RX1 1 objectInit, Cond.methodLink RX2 20 yX2_init_, Cond.instanceMethod yX2_init_, Cond.selects RX2 yX2_init_ yX2_init_, Cond.code yX2_init_ cX2_init_ 2 none, Cond.fieldLink RX2 23 "LowPowerCpu" "pendingLines" "I", Cond.fieldLink RX2 27 "LowPowerCpu" "cycles" "I", Cond.constant RX2 39 (65534), Cond.instanceMethod yX1_clear, Cond.selects RX1 yX1_clear yX1_clear, Cond.code yX1_clear cX1_clear 1 none, Cond.fieldLink RX1 7 "LowPowerCpu$Multiplier" "one" "I", Cond.fieldLink RX1 13 "LowPowerCpu$Multiplier" "two" "I", Cond.fieldLink RX1 16 "LowPowerCpu$Multiplier" "low" "I", Cond.fieldLink RX1 19 "LowPowerCpu$Multiplier" "high" "I", Cond.fieldLink RX1 22 "LowPowerCpu$Multiplier" "extra" "I", Cond.fieldLink RX1 25 "LowPowerCpu$Multiplier" "way" "I", Cond.instanceMethod yX0_wordAt, Cond.selects RX0 yX0_wordAt yX0_wordAt]
def wsL_law_r3 : List Cond := [Cond.code yX0_wordAt cX0_wordAt 2 (some .int), Cond.constant RX0 37 (65535), Cond.methodLink RX0 23 yX0_isMultiplier, Cond.static yX0_isMultiplier, Cond.code yX0_isMultiplier cX0_isMultiplier 1 (some .boolean), Cond.constant RX0 22 (65520), Cond.methodLink RX0 27 yX0_slotOf, Cond.static yX0_slotOf, Cond.code yX0_slotOf cX0_slotOf 1 (some .int), Cond.instanceMethod yX1_wordAtSlot, Cond.selects RX1 yX1_wordAtSlot yX1_wordAtSlot, Cond.code yX1_wordAtSlot cX1_wordAtSlot 2 (some .int), Cond.methodLink RX0 34 yX0_cellOf, Cond.static yX0_cellOf, Cond.code yX0_cellOf cX0_cellOf 1 (some .int), Cond.methodLink RX2 44 yX2_setRegister, Cond.instanceMethod yX2_setRegister, Cond.selects RX2 yX2_setRegister yX2_setRegister, Cond.code yX2_setRegister cX2_setRegister 3 none, Cond.constant RX2 149 (65535), Cond.methodLink RL 12 yX3_init, Cond.instanceMethod yX3_init, Cond.code yX3_init cX3_init 1 none, Cond.methodLink RX3 1 objectInit]
def wsL_law_r4 : List Cond := [Cond.constant RX3 7 (32768), Cond.arrayClass .short, Cond.fieldLink RX3 8 "LowPowerCpuModel" "words" "[S", Cond.fieldLink RX3 14 "LowPowerCpuModel" "\x72" "[I", Cond.fieldLink RX3 18 "LowPowerCpuModel" "by" "[I", Cond.methodLink RX3 21 yX3_init_, Cond.instanceMethod yX3_init_, Cond.selects RX3 yX3_init_ yX3_init_, Cond.code yX3_init_ cX3_init_ 2 none, Cond.fieldLink RX3 24 "LowPowerCpuModel" "how" "I", Cond.fieldLink RX3 28 "LowPowerCpuModel" "lines" "I", Cond.fieldLink RX3 31 "LowPowerCpuModel" "cycles" "I", Cond.constant RX3 34 (65534), Cond.methodLink RX3 35 yX3_wordAt, Cond.instanceMethod yX3_wordAt, Cond.selects RX3 yX3_wordAt yX3_wordAt, Cond.code yX3_wordAt cX3_wordAt 2 (some .int), Cond.constant RX3 50 (65535), Cond.methodLink RX3 43 yX3_isMultiplier, Cond.static yX3_isMultiplier, Cond.code yX3_isMultiplier cX3_isMultiplier 1 (some .boolean), Cond.methodLink RX3 47 yX3_which, Cond.static yX3_which, Cond.code yX3_which cX3_which 1 (some .int)]
def wsL_law_r5 : List Cond := [Cond.methodLink RX3 39 yX3_setRegister, Cond.instanceMethod yX3_setRegister, Cond.selects RX3 yX3_setRegister yX3_setRegister, Cond.code yX3_setRegister cX3_setRegister 3 none, Cond.methodLink RL 13 yX2_init_, Cond.methodLink RL 16 yX3_init_, Cond.methodLink RL 17 yX2_poke, Cond.instanceMethod yX2_poke, Cond.selects RX2 yX2_poke yX2_poke, Cond.code yX2_poke cX2_poke 3 (some .boolean), Cond.constant RX2 48 (65536), Cond.instanceMethod yX0_placeByte, Cond.selects RX0 yX0_placeByte yX0_placeByte, Cond.code yX0_placeByte cX0_placeByte 5 none, Cond.constant RX0 51 (65280), Cond.methodLink RX0 38 yX0_wordAt, Cond.instanceMethod yX1_placeWordAtSlot, Cond.selects RX1 yX1_placeWordAtSlot yX1_placeWordAtSlot, Cond.code yX1_placeWordAtSlot cX1_placeWordAtSlot 3 none, Cond.methodLink RX0 45 yX0_placeWord, Cond.instanceMethod yX0_placeWord, Cond.selects RX0 yX0_placeWord yX0_placeWord, Cond.code yX0_placeWord cX0_placeWord 5 none, Cond.constantLong RX0 55 (65535)]
def wsL_law_r6 : List Cond := [Cond.constantLong RX0 57 (-1), Cond.methodLink RL 21 yX3_poke, Cond.instanceMethod yX3_poke, Cond.selects RX3 yX3_poke yX3_poke, Cond.code yX3_poke cX3_poke 3 (some .boolean), Cond.methodLink RX3 180 yX3_isAddress, Cond.static yX3_isAddress, Cond.code yX3_isAddress cX3_isAddress 1 (some .boolean), Cond.constant RX3 73 (65536), Cond.methodLink RX3 62 yX3_withByte, Cond.static yX3_withByte, Cond.code yX3_withByte cX3_withByte 3 (some .int), Cond.constant RX3 58 (65280), Cond.methodLink RL 22 yX2_peek, Cond.instanceMethod yX2_peek, Cond.selects RX2 yX2_peek yX2_peek, Cond.code yX2_peek cX2_peek 2 (some .int), Cond.instanceMethod yX0_byteAt, Cond.selects RX0 yX0_byteAt yX0_byteAt, Cond.code yX0_byteAt cX0_byteAt 3 (some .int), Cond.methodLink RL 26 yX3_peek, Cond.instanceMethod yX3_peek, Cond.selects RX3 yX3_peek yX3_peek, Cond.code yX3_peek cX3_peek 2 (some .int)]
def wsL_law_r7 : List Cond := [Cond.methodLink RX3 55 yX3_byteAt, Cond.instanceMethod yX3_byteAt, Cond.selects RX3 yX3_byteAt yX3_byteAt, Cond.code yX3_byteAt cX3_byteAt 2 (some .int), Cond.methodLink RL 27 yX2_step, Cond.instanceMethod yX2_step, Cond.selects RX2 yX2_step yX2_step, Cond.code yX2_step cX2_step 3 (some .int), Cond.methodLink RX2 55 yX2_interrupt, Cond.instanceMethod yX2_interrupt, Cond.selects RX2 yX2_interrupt yX2_interrupt, Cond.code yX2_interrupt cX2_interrupt 2 none, Cond.constant RX2 92 (65504), Cond.methodLink RX2 85 yX2_highestPendingLine, Cond.instanceMethod yX2_highestPendingLine, Cond.selects RX2 yX2_highestPendingLine yX2_highestPendingLine, Cond.code yX2_highestPendingLine cX2_highestPendingLine 2 (some .int), Cond.methodLink RX2 88 yX2_push, Cond.instanceMethod yX2_push, Cond.selects RX2 yX2_push yX2_push, Cond.code yX2_push cX2_push 3 none, Cond.methodLink RX2 62 yX2_addToRegister, Cond.instanceMethod yX2_addToRegister, Cond.selects RX2 yX2_addToRegister yX2_addToRegister]
def wsL_law_r8 : List Cond := [Cond.code yX2_addToRegister cX2_addToRegister 3 none, Cond.instanceMethod yX0_writeByte, Cond.selects RX0 yX0_writeByte yX0_writeByte, Cond.code yX0_writeByte cX0_writeByte 3 none, Cond.methodLink RX0 48 yX0_placeByte, Cond.instanceMethod yX1_write, Cond.selects RX1 yX1_write yX1_write, Cond.code yX1_write cX1_write 3 none, Cond.methodLink RX1 28 yX1_placeWordAtSlot, Cond.methodLink RX1 32 yX1_multiply, Cond.instanceMethod yX1_multiply, Cond.selects RX1 yX1_multiply yX1_multiply, Cond.code yX1_multiply cX1_multiply 9 none, Cond.constant RX1 35 (65535), Cond.constant RX1 36 (32768), Cond.constantLong RX1 37 (4294967295), Cond.instanceMethod yX0_writeWord, Cond.selects RX0 yX0_writeWord yX0_writeWord, Cond.code yX0_writeWord cX0_writeWord 3 none, Cond.methodLink RX2 93 yX2_spend, Cond.instanceMethod yX2_spend, Cond.selects RX2 yX2_spend yX2_spend, Cond.code yX2_spend cX2_spend 2 none, Cond.constant RX2 194 (1073741823)]
def wsL_law_r9 : List Cond := [Cond.methodLink RX2 58 yX2_isUnassigned, Cond.static yX2_isUnassigned, Cond.code yX2_isUnassigned cX2_isUnassigned 3 (some .boolean), Cond.methodLink RX2 65 yX2_doTwoParts, Cond.instanceMethod yX2_doTwoParts, Cond.selects RX2 yX2_doTwoParts yX2_doTwoParts, Cond.code yX2_doTwoParts cX2_doTwoParts 9 none, Cond.methodLink RX2 96 yX2_sourcePlace, Cond.instanceMethod yX2_sourcePlace, Cond.selects RX2 yX2_sourcePlace yX2_sourcePlace, Cond.code yX2_sourcePlace cX2_sourcePlace 6 (some .int), Cond.constant RX2 148 (131072), Cond.methodLink RX2 150 yX2_indexedPlace, Cond.instanceMethod yX2_indexedPlace, Cond.selects RX2 yX2_indexedPlace yX2_indexedPlace, Cond.code yX2_indexedPlace cX2_indexedPlace 4 (some .int), Cond.methodLink RX2 100 yX2_valueAt, Cond.instanceMethod yX2_valueAt, Cond.selects RX2 yX2_valueAt yX2_valueAt, Cond.code yX2_valueAt cX2_valueAt 4 (some .int), Cond.methodLink RX2 104 yX2_destinationPlace, Cond.instanceMethod yX2_destinationPlace, Cond.selects RX2 yX2_destinationPlace yX2_destinationPlace, Cond.code yX2_destinationPlace cX2_destinationPlace 3 (some .int)]
def wsL_law_r10 : List Cond := [Cond.methodLink RX2 107 yX2_combine, Cond.instanceMethod yX2_combine, Cond.selects RX2 yX2_combine yX2_combine, Cond.code yX2_combine cX2_combine 6 (some .int), Cond.methodLink RX2 159 yX2_add, Cond.instanceMethod yX2_add, Cond.selects RX2 yX2_add yX2_add, Cond.code yX2_add cX2_add 8 (some .int), Cond.methodLink RX2 167 yX2_isHighestSet, Cond.static yX2_isHighestSet, Cond.code yX2_isHighestSet cX2_isHighestSet 2 (some .boolean), Cond.methodLink RX2 175 yX2_setFlags, Cond.instanceMethod yX2_setFlags, Cond.selects RX2 yX2_setFlags yX2_setFlags, Cond.code yX2_setFlags cX2_setFlags 6 none, Cond.methodLink RX2 163 yX2_addDecimal, Cond.instanceMethod yX2_addDecimal, Cond.selects RX2 yX2_addDecimal yX2_addDecimal, Cond.code yX2_addDecimal cX2_addDecimal 8 (some .int), Cond.methodLink RX2 171 yX2_logical, Cond.instanceMethod yX2_logical, Cond.selects RX2 yX2_logical yX2_logical, Cond.code yX2_logical cX2_logical 4 (some .int), Cond.methodLink RX2 111 yX2_put]
def wsL_law_r11 : List Cond := [Cond.instanceMethod yX2_put, Cond.selects RX2 yX2_put yX2_put, Cond.code yX2_put cX2_put 4 none, Cond.methodLink RX2 115 yX2_twoPartsCycles, Cond.static yX2_twoPartsCycles, Cond.code yX2_twoPartsCycles cX2_twoPartsCycles 1 (some (.array .int)), Cond.fieldLink RX2 185 "LowPowerCpu" "TO_MEMORY_CYCLES" "[I", Cond.fieldLink RX2 188 "LowPowerCpu" "TO_PC_CYCLES" "[I", Cond.fieldLink RX2 191 "LowPowerCpu" "TO_REGISTER_CYCLES" "[I", Cond.methodLink RX2 119 yX2_kindOfSource, Cond.static yX2_kindOfSource, Cond.code yX2_kindOfSource cX2_kindOfSource 2 (some .int), Cond.fieldLink RX2 182 "LowPowerCpu" "KIND_OF_WAY" "[I", Cond.methodLink RX2 122 yX2_spendByKind, Cond.instanceMethod yX2_spendByKind, Cond.selects RX2 yX2_spendByKind yX2_spendByKind, Cond.code yX2_spendByKind cX2_spendByKind 3 none, Cond.methodLink RX2 69 yX2_doJump, Cond.instanceMethod yX2_doJump, Cond.selects RX2 yX2_doJump yX2_doJump, Cond.code yX2_doJump cX2_doJump 3 none, Cond.methodLink RX2 139 yX2_isJumpTaken, Cond.instanceMethod yX2_isJumpTaken, Cond.selects RX2 yX2_isJumpTaken yX2_isJumpTaken]
def wsL_law_r12 : List Cond := [Cond.code yX2_isJumpTaken cX2_isJumpTaken 3 (some .boolean), Cond.methodLink RX2 142 yX2_isSet, Cond.instanceMethod yX2_isSet, Cond.selects RX2 yX2_isSet yX2_isSet, Cond.code yX2_isSet cX2_isSet 2 (some .boolean), Cond.methodLink RX2 72 yX2_returnFromInterrupt, Cond.instanceMethod yX2_returnFromInterrupt, Cond.selects RX2 yX2_returnFromInterrupt yX2_returnFromInterrupt, Cond.code yX2_returnFromInterrupt cX2_returnFromInterrupt 1 none, Cond.methodLink RX2 145 yX2_pop, Cond.instanceMethod yX2_pop, Cond.selects RX2 yX2_pop yX2_pop, Cond.code yX2_pop cX2_pop 2 (some .int), Cond.methodLink RX2 75 yX2_doOnePart, Cond.instanceMethod yX2_doOnePart, Cond.selects RX2 yX2_doOnePart yX2_doOnePart, Cond.code yX2_doOnePart cX2_doOnePart 7 none, Cond.fieldLink RX2 126 "LowPowerCpu" "PUSH_CYCLES" "[I", Cond.fieldLink RX2 129 "LowPowerCpu" "CALL_CYCLES" "[I", Cond.fieldLink RX2 136 "LowPowerCpu" "CHANGE_CYCLES" "[I", Cond.methodLink RX2 132 yX2_change, Cond.instanceMethod yX2_change, Cond.selects RX2 yX2_change yX2_change, Cond.code yX2_change cX2_change 6 (some .int)]
def wsL_law_r13 : List Cond := [Cond.methodLink RX2 179 yX2_shifted, Cond.instanceMethod yX2_shifted, Cond.selects RX2 yX2_shifted yX2_shifted, Cond.code yX2_shifted cX2_shifted 5 (some .int), Cond.methodLink RL 31 yX3_step, Cond.instanceMethod yX3_step, Cond.selects RX3 yX3_step yX3_step, Cond.code yX3_step cX3_step 2 (some .int), Cond.fieldLink RX3 51 "LowPowerCpuModel" "bytes" "Z", Cond.methodLink RX3 121 yX3_flag, Cond.instanceMethod yX3_flag, Cond.selects RX3 yX3_flag yX3_flag, Cond.code yX3_flag cX3_flag 2 (some .int), Cond.methodLink RX3 162 yX3_interrupt, Cond.instanceMethod yX3_interrupt, Cond.selects RX3 yX3_interrupt yX3_interrupt, Cond.code yX3_interrupt cX3_interrupt 2 none, Cond.constant RX3 161 (65504), Cond.methodLink RX3 155 yX3_push, Cond.instanceMethod yX3_push, Cond.selects RX3 yX3_push yX3_push, Cond.code yX3_push cX3_push 2 none, Cond.methodLink RX3 137 yX3_write, Cond.instanceMethod yX3_write]
def wsL_law_r14 : List Cond := [Cond.selects RX3 yX3_write yX3_write, Cond.code yX3_write cX3_write 3 none, Cond.methodLink RX3 74 yX3_setByte, Cond.instanceMethod yX3_setByte, Cond.selects RX3 yX3_setByte yX3_setByte, Cond.code yX3_setByte cX3_setByte 3 none, Cond.methodLink RX3 59 yX3_multiply, Cond.instanceMethod yX3_multiply, Cond.selects RX3 yX3_multiply yX3_multiply, Cond.code yX3_multiply cX3_multiply 3 none, Cond.methodLink RX3 66 yX3_product, Cond.instanceMethod yX3_product, Cond.selects RX3 yX3_product yX3_product, Cond.code yX3_product cX3_product 11 none, Cond.constantLong RX3 69 (4294967295), Cond.constantLong RX3 71 (65535), Cond.methodLink RX3 77 yX3_setWord, Cond.instanceMethod yX3_setWord, Cond.selects RX3 yX3_setWord yX3_setWord, Cond.code yX3_setWord cX3_setWord 3 none, Cond.methodLink RX3 146 yX3_spend, Cond.instanceMethod yX3_spend, Cond.selects RX3 yX3_spend yX3_spend, Cond.code yX3_spend cX3_spend 2 none]
def wsL_law_r15 : List Cond := [Cond.constant RX3 106 (1073741823), Cond.methodLink RX3 165 yX3_isAssigned, Cond.static yX3_isAssigned, Cond.code yX3_isAssigned cX3_isAssigned 2 (some .boolean), Cond.methodLink RX3 89 yX3_taken, Cond.instanceMethod yX3_taken, Cond.selects RX3 yX3_taken yX3_taken, Cond.code yX3_taken cX3_taken 2 (some .int), Cond.methodLink RX3 168 yX3_twoParts, Cond.instanceMethod yX3_twoParts, Cond.selects RX3 yX3_twoParts yX3_twoParts, Cond.code yX3_twoParts cX3_twoParts 9 none, Cond.fieldLink RX3 80 "LowPowerCpuModel" "part" "I", Cond.fieldLink RX3 83 "LowPowerCpuModel" "where" "I", Cond.methodLink RX3 131 yX3_source, Cond.instanceMethod yX3_source, Cond.selects RX3 yX3_source yX3_source, Cond.code yX3_source cX3_source 3 none, Cond.methodLink RX3 97 yX3_register, Cond.instanceMethod yX3_register, Cond.selects RX3 yX3_register yX3_register, Cond.code yX3_register cX3_register 2 none, Cond.methodLink RX3 100 yX3_indexed, Cond.instanceMethod yX3_indexed]
def wsL_law_r16 : List Cond := [Cond.selects RX3 yX3_indexed yX3_indexed, Cond.code yX3_indexed cX3_indexed 3 none, Cond.methodLink RX3 93 yX3_memory, Cond.instanceMethod yX3_memory, Cond.selects RX3 yX3_memory yX3_memory, Cond.code yX3_memory cX3_memory 2 none, Cond.methodLink RX3 86 yX3_valueAt, Cond.instanceMethod yX3_valueAt, Cond.selects RX3 yX3_valueAt yX3_valueAt, Cond.code yX3_valueAt cX3_valueAt 2 (some .int), Cond.methodLink RX3 103 yX3_number, Cond.instanceMethod yX3_number, Cond.selects RX3 yX3_number yX3_number, Cond.code yX3_number cX3_number 2 none, Cond.methodLink RX3 134 yX3_joined, Cond.instanceMethod yX3_joined, Cond.selects RX3 yX3_joined yX3_joined, Cond.code yX3_joined cX3_joined 6 (some .int), Cond.methodLink RX3 114 yX3_all, Cond.instanceMethod yX3_all, Cond.selects RX3 yX3_all yX3_all, Cond.code yX3_all cX3_all 1 (some .int), Cond.methodLink RX3 124 yX3_sum, Cond.instanceMethod yX3_sum]
def wsL_law_r17 : List Cond := [Cond.selects RX3 yX3_sum yX3_sum, Cond.code yX3_sum cX3_sum 6 (some .int), Cond.methodLink RX3 111 yX3_high, Cond.instanceMethod yX3_high, Cond.selects RX3 yX3_high yX3_high, Cond.code yX3_high cX3_high 1 (some .int), Cond.methodLink RX3 117 yX3_flags, Cond.instanceMethod yX3_flags, Cond.selects RX3 yX3_flags yX3_flags, Cond.code yX3_flags cX3_flags 4 none, Cond.methodLink RX3 107 yX3_setFlag, Cond.instanceMethod yX3_setFlag, Cond.selects RX3 yX3_setFlag yX3_setFlag, Cond.code yX3_setFlag cX3_setFlag 3 none, Cond.methodLink RX3 127 yX3_decimal, Cond.instanceMethod yX3_decimal, Cond.selects RX3 yX3_decimal yX3_decimal, Cond.code yX3_decimal cX3_decimal 7 (some .int), Cond.methodLink RX3 140 yX3_sort, Cond.static yX3_sort, Cond.code yX3_sort cX3_sort 2 (some .int), Cond.methodLink RX3 143 yX3_pick, Cond.static yX3_pick, Cond.code yX3_pick cX3_pick 2 (some .int)]
def wsL_law_r18 : List Cond := [Cond.methodLink RX3 171 yX3_jump, Cond.instanceMethod yX3_jump, Cond.selects RX3 yX3_jump yX3_jump, Cond.code yX3_jump cX3_jump 3 none, Cond.methodLink RX3 158 yX3_jumps, Cond.instanceMethod yX3_jumps, Cond.selects RX3 yX3_jumps yX3_jumps, Cond.code yX3_jumps cX3_jumps 2 (some .boolean), Cond.methodLink RX3 174 yX3_onePart, Cond.instanceMethod yX3_onePart, Cond.selects RX3 yX3_onePart yX3_onePart, Cond.code yX3_onePart cX3_onePart 7 none, Cond.methodLink RX3 149 yX3_popped, Cond.instanceMethod yX3_popped, Cond.selects RX3 yX3_popped yX3_popped, Cond.code yX3_popped cX3_popped 2 (some .int), Cond.methodLink RX3 152 yX3_shifted, Cond.instanceMethod yX3_shifted, Cond.selects RX3 yX3_shifted yX3_shifted, Cond.code yX3_shifted cX3_shifted 5 none, Cond.methodLink RL 32 yX2_run, Cond.instanceMethod yX2_run, Cond.selects RX2 yX2_run yX2_run, Cond.code yX2_run cX2_run 4 (some .int)]
def wsL_law_r19 : List Cond := [Cond.methodLink RX2 78 yX2_step, Cond.methodLink RL 35 yX3_run, Cond.instanceMethod yX3_run, Cond.selects RX3 yX3_run yX3_run, Cond.code yX3_run cX3_run 4 (some .int), Cond.methodLink RX3 177 yX3_step, Cond.methodLink RL 36 yX2_reg, Cond.instanceMethod yX2_reg, Cond.selects RX2 yX2_reg yX2_reg, Cond.code yX2_reg cX2_reg 2 (some .int), Cond.methodLink RL 39 yX3_reg, Cond.instanceMethod yX3_reg, Cond.selects RX3 yX3_reg yX3_reg, Cond.code yX3_reg cX3_reg 2 (some .int), Cond.methodLink RL 40 yX2_raise, Cond.instanceMethod yX2_raise, Cond.selects RX2 yX2_raise yX2_raise, Cond.code yX2_raise cX2_raise 2 (some .boolean), Cond.methodLink RL 44 yX3_raise, Cond.instanceMethod yX3_raise, Cond.selects RX3 yX3_raise yX3_raise, Cond.code yX3_raise cX3_raise 2 (some .boolean), Cond.methodLink RL 45 yX2_cyclesOf, Cond.instanceMethod yX2_cyclesOf]
def wsL_law_r20 : List Cond := [Cond.selects RX2 yX2_cyclesOf yX2_cyclesOf, Cond.code yX2_cyclesOf cX2_cyclesOf 1 (some .int), Cond.methodLink RL 48 yX3_cyclesOf, Cond.instanceMethod yX3_cyclesOf, Cond.selects RX3 yX3_cyclesOf yX3_cyclesOf, Cond.code yX3_cyclesOf cX3_cyclesOf 1 (some .int), Cond.methodLink RL 49 yX2_pending, Cond.instanceMethod yX2_pending, Cond.selects RX2 yX2_pending yX2_pending, Cond.code yX2_pending cX2_pending 1 (some .int), Cond.methodLink RL 52 yX3_pending, Cond.instanceMethod yX3_pending, Cond.selects RX3 yX3_pending yX3_pending, Cond.code yX3_pending cX3_pending 1 (some .int), Cond.methodLink RL 53 yX2_mode, Cond.instanceMethod yX2_mode, Cond.selects RX2 yX2_mode yX2_mode, Cond.code yX2_mode cX2_mode 1 (some .int), Cond.methodLink RL 56 yX3_mode, Cond.instanceMethod yX3_mode, Cond.selects RX3 yX3_mode yX3_mode, Cond.code yX3_mode cX3_mode 1 (some .int)]
def wsL_law : List Cond := (wsL_law_r1 ++ (wsL_law_r2 ++ (wsL_law_r3 ++ (wsL_law_r4 ++ (wsL_law_r5 ++ (wsL_law_r6 ++ (wsL_law_r7 ++ (wsL_law_r8 ++ (wsL_law_r9 ++ (wsL_law_r10 ++ (wsL_law_r11 ++ (wsL_law_r12 ++ (wsL_law_r13 ++ (wsL_law_r14 ++ (wsL_law_r15 ++ (wsL_law_r16 ++ (wsL_law_r17 ++ (wsL_law_r18 ++ (wsL_law_r19 ++ wsL_law_r20))))))))))))))))))) ++ wsX20 ++ wsX30 ++ wsX00 ++ wsX10 ++ ([] : List Cond)
abbrev vwCl : List vw_C := [(RX0, TX0, 2), (RX1, TX1, 6), (RX2, TX2, 4), (RX3, TX3, 9)]
end
section
theorem mem_r {big : List Cond} (ws : List Cond) (ps : List Nat) (hp : ws = ps.filterMap (fun i => big[i]?)) : ∀ w ∈ ws, w ∈ big := by
  intro w hw
  rw [hp] at hw
  obtain ⟨i, -, hi⟩ := List.mem_filterMap.mp hw
  first | exact List.mem_of_getElem? hi | exact List.getElem?_mem hi
set_option maxRecDepth 20000 in
theorem in_wsL_law_r1 : ∀ w ∈ wsL_law_r1, w ∈ lw_tbl := mem_r _ [74, 75, 70, 379, 380, 73, 76, 77, 78, 79, 80, 81, 82, 83, 71, 156, 169, 157, 85, 86, 87, 114, 115, 88] (by decide +kernel)
set_option maxRecDepth 20000 in
theorem in_wsL_law_r2 : ∀ w ∈ wsL_law_r2, w ∈ lw_tbl := mem_r _ [89, 72, 116, 91, 92, 93, 123, 124, 125, 126, 158, 159, 131, 129, 0, 130, 94, 95, 96, 97, 98, 99, 134, 1] (by decide +kernel)
set_option maxRecDepth 20000 in
theorem in_wsL_law_r3 : ∀ w ∈ wsL_law_r3, w ∈ lw_tbl := mem_r _ [135, 150, 136, 137, 138, 139, 140, 141, 142, 145, 2, 146, 147, 148, 149, 151, 153, 3, 154, 155, 381, 382, 383, 384] (by decide +kernel)
set_option maxRecDepth 20000 in
theorem in_wsL_law_r4 : ∀ w ∈ wsL_law_r4, w ∈ lw_tbl := mem_r _ [385, 434, 406, 407, 408, 386, 387, 388, 389, 409, 410, 411, 390, 391, 393, 37, 394, 401, 395, 396, 397, 398, 399, 400] (by decide +kernel)
set_option maxRecDepth 20000 in
theorem in_wsL_law_r5 : ∀ w ∈ wsL_law_r5, w ∈ lw_tbl := mem_r _ [402, 404, 38, 405, 170, 435, 171, 172, 173, 174, 175, 178, 4, 179, 181, 180, 184, 5, 185, 186, 188, 6, 189, 190] (by decide +kernel)
set_option maxRecDepth 20000 in
theorem in_wsL_law_r6 : ∀ w ∈ wsL_law_r6, w ∈ lw_tbl := mem_r _ [191, 583, 584, 585, 586, 587, 588, 589, 452, 461, 462, 463, 464, 192, 193, 194, 195, 198, 7, 199, 590, 591, 592, 593] (by decide +kernel)
set_option maxRecDepth 20000 in
theorem in_wsL_law_r7 : ∀ w ∈ wsL_law_r7, w ∈ lw_tbl := mem_r _ [516, 518, 55, 519, 200, 201, 202, 203, 204, 206, 8, 207, 241, 208, 210, 9, 211, 212, 214, 10, 215, 216, 218, 11] (by decide +kernel)
set_option maxRecDepth 20000 in
theorem in_wsL_law_r8 : ∀ w ∈ wsL_law_r8, w ∈ lw_tbl := mem_r _ [219, 222, 12, 223, 224, 227, 13, 228, 229, 230, 232, 14, 233, 234, 235, 236, 239, 15, 240, 242, 244, 16, 245, 246] (by decide +kernel)
set_option maxRecDepth 20000 in
theorem in_wsL_law_r9 : ∀ w ∈ wsL_law_r9, w ∈ lw_tbl := mem_r _ [247, 248, 249, 250, 252, 17, 253, 254, 256, 18, 257, 258, 259, 261, 19, 262, 263, 265, 20, 266, 267, 269, 21, 270] (by decide +kernel)
set_option maxRecDepth 20000 in
theorem in_wsL_law_r10 : ∀ w ∈ wsL_law_r10, w ∈ lw_tbl := mem_r _ [271, 273, 22, 274, 275, 277, 23, 278, 279, 280, 281, 282, 284, 24, 285, 286, 288, 25, 289, 290, 292, 26, 293, 294] (by decide +kernel)
set_option maxRecDepth 20000 in
theorem in_wsL_law_r11 : ∀ w ∈ wsL_law_r11, w ∈ lw_tbl := mem_r _ [296, 27, 297, 298, 299, 300, 301, 303, 305, 307, 308, 309, 310, 312, 314, 28, 315, 316, 318, 29, 319, 320, 322, 30] (by decide +kernel)
set_option maxRecDepth 20000 in
theorem in_wsL_law_r12 : ∀ w ∈ wsL_law_r12, w ∈ lw_tbl := mem_r _ [323, 324, 326, 31, 327, 328, 330, 32, 331, 332, 334, 33, 335, 336, 338, 34, 339, 340, 342, 352, 344, 346, 35, 347] (by decide +kernel)
set_option maxRecDepth 20000 in
theorem in_wsL_law_r13 : ∀ w ∈ wsL_law_r13, w ∈ lw_tbl := mem_r _ [348, 350, 36, 351, 436, 437, 438, 439, 414, 440, 442, 39, 443, 444, 446, 40, 447, 479, 448, 450, 41, 451, 453, 455] (by decide +kernel)
set_option maxRecDepth 20000 in
theorem in_wsL_law_r14 : ∀ w ∈ wsL_law_r14, w ∈ lw_tbl := mem_r _ [42, 456, 457, 459, 43, 460, 465, 467, 44, 468, 469, 471, 45, 472, 473, 474, 475, 477, 46, 478, 480, 482, 47, 483] (by decide +kernel)
set_option maxRecDepth 20000 in
theorem in_wsL_law_r15 : ∀ w ∈ wsL_law_r15, w ∈ lw_tbl := mem_r _ [484, 485, 486, 487, 488, 490, 48, 491, 492, 494, 49, 495, 412, 413, 496, 498, 50, 499, 500, 502, 51, 503, 504, 506] (by decide +kernel)
set_option maxRecDepth 20000 in
theorem in_wsL_law_r16 : ∀ w ∈ wsL_law_r16, w ∈ lw_tbl := mem_r _ [52, 507, 508, 510, 53, 511, 512, 514, 54, 515, 520, 522, 56, 523, 524, 526, 57, 527, 528, 530, 58, 531, 532, 534] (by decide +kernel)
set_option maxRecDepth 20000 in
theorem in_wsL_law_r17 : ∀ w ∈ wsL_law_r17, w ∈ lw_tbl := mem_r _ [59, 535, 536, 538, 60, 539, 540, 542, 61, 543, 544, 546, 62, 547, 548, 550, 63, 551, 552, 553, 554, 555, 556, 557] (by decide +kernel)
set_option maxRecDepth 20000 in
theorem in_wsL_law_r18 : ∀ w ∈ wsL_law_r18, w ∈ lw_tbl := mem_r _ [558, 560, 64, 561, 562, 564, 65, 565, 566, 568, 66, 569, 570, 572, 67, 573, 574, 576, 68, 577, 354, 355, 356, 357] (by decide +kernel)
set_option maxRecDepth 20000 in
theorem in_wsL_law_r19 : ∀ w ∈ wsL_law_r19, w ∈ lw_tbl := mem_r _ [358, 578, 579, 580, 581, 582, 359, 360, 361, 362, 594, 595, 596, 597, 363, 364, 365, 366, 598, 599, 600, 601, 367, 368] (by decide +kernel)
set_option maxRecDepth 20000 in
theorem in_wsL_law_r20 : ∀ w ∈ wsL_law_r20, w ∈ lw_tbl := mem_r _ [369, 370, 602, 603, 604, 605, 371, 372, 373, 374, 606, 607, 608, 609, 375, 376, 377, 378, 610, 611, 612, 613] (by decide +kernel)
set_option maxRecDepth 20000 in
theorem in_wsX20 : ∀ w ∈ wsX20, w ∈ lw_tbl := mem_r _ [160, 162, 164, 166] (by decide +kernel)
set_option maxRecDepth 20000 in
theorem in_wsX30 : ∀ w ∈ wsX30, w ∈ lw_tbl := mem_r _ [415, 417, 419, 421, 423, 425, 427, 429, 431] (by decide +kernel)
set_option maxRecDepth 20000 in
theorem in_wsX00 : ∀ w ∈ wsX00, w ∈ lw_tbl := mem_r _ [118, 120] (by decide +kernel)
set_option maxRecDepth 20000 in
theorem in_wsX10 : ∀ w ∈ wsX10, w ∈ lw_tbl := mem_r _ [101, 103, 105, 107, 109, 111] (by decide +kernel)
theorem wsL_law_in : ∀ w ∈ wsL_law, w ∈ lw_tbl := fun w h => (List.mem_append.mp h).elim (fun h => (List.mem_append.mp h).elim (fun h => (List.mem_append.mp h).elim (fun h => (List.mem_append.mp h).elim (fun h => (List.mem_append.mp h).elim (fun h => (List.mem_append.mp h).elim (fun h => in_wsL_law_r1 w h) (fun h => (List.mem_append.mp h).elim (fun h => in_wsL_law_r2 w h) (fun h => (List.mem_append.mp h).elim (fun h => in_wsL_law_r3 w h) (fun h => (List.mem_append.mp h).elim (fun h => in_wsL_law_r4 w h) (fun h => (List.mem_append.mp h).elim (fun h => in_wsL_law_r5 w h) (fun h => (List.mem_append.mp h).elim (fun h => in_wsL_law_r6 w h) (fun h => (List.mem_append.mp h).elim (fun h => in_wsL_law_r7 w h) (fun h => (List.mem_append.mp h).elim (fun h => in_wsL_law_r8 w h) (fun h => (List.mem_append.mp h).elim (fun h => in_wsL_law_r9 w h) (fun h => (List.mem_append.mp h).elim (fun h => in_wsL_law_r10 w h) (fun h => (List.mem_append.mp h).elim (fun h => in_wsL_law_r11 w h) (fun h => (List.mem_append.mp h).elim (fun h => in_wsL_law_r12 w h) (fun h => (List.mem_append.mp h).elim (fun h => in_wsL_law_r13 w h) (fun h => (List.mem_append.mp h).elim (fun h => in_wsL_law_r14 w h) (fun h => (List.mem_append.mp h).elim (fun h => in_wsL_law_r15 w h) (fun h => (List.mem_append.mp h).elim (fun h => in_wsL_law_r16 w h) (fun h => (List.mem_append.mp h).elim (fun h => in_wsL_law_r17 w h) (fun h => (List.mem_append.mp h).elim (fun h => in_wsL_law_r18 w h) (fun h => (List.mem_append.mp h).elim (fun h => in_wsL_law_r19 w h) (fun h => in_wsL_law_r20 w h)))))))))))))))))))) (fun h => in_wsX20 w h)) (fun h => in_wsX30 w h)) (fun h => in_wsX00 w h)) (fun h => in_wsX10 w h)) (fun h => absurd h List.not_mem_nil)
theorem inlX0 : ∀ w ∈ wsX00, w ∈ wsL_law := fun _ h => List.mem_append_left _ (List.mem_append_left _ (List.mem_append_right _ h))
theorem inX0 : ∀ w ∈ wsX00, w ∈ lw_tbl := fun w h => wsL_law_in w (inlX0 w h)
theorem inlX1 : ∀ w ∈ wsX10, w ∈ wsL_law := fun _ h => List.mem_append_left _ (List.mem_append_right _ h)
theorem inX1 : ∀ w ∈ wsX10, w ∈ lw_tbl := fun w h => wsL_law_in w (inlX1 w h)
theorem inlX2 : ∀ w ∈ wsX20, w ∈ wsL_law := fun _ h => List.mem_append_left _ (List.mem_append_left _ (List.mem_append_left _ (List.mem_append_left _ (List.mem_append_right _ h))))
theorem inX2 : ∀ w ∈ wsX20, w ∈ lw_tbl := fun w h => wsL_law_in w (inlX2 w h)
theorem inlX3 : ∀ w ∈ wsX30, w ∈ wsL_law := fun _ h => List.mem_append_left _ (List.mem_append_left _ (List.mem_append_left _ (List.mem_append_right _ h)))
theorem inX3 : ∀ w ∈ wsX30, w ∈ lw_tbl := fun w h => wsL_law_in w (inlX3 w h)
end
section
set_option maxRecDepth 20000 in
theorem ggX0_init_X1_init : GoodIn wsX0_init wsX1_init := goodIn_r _ [11, 12, 2, 3] (by decide +kernel) (by decide +kernel)
set_option maxRecDepth 20000 in
theorem gX0_init_X1_init_n17 : GoodIn wsX0_init (wsX1_init) := ggX0_init_X1_init
theorem dX0_init_0 : decode cX0_init 0 = .ok (.aload_n 0, 1) := by decide +kernel
theorem dX0_init_1 : decode cX0_init 1 = .ok (.invokespecial 3, 3) := by decide +kernel
theorem dX0_init_4 : decode cX0_init 4 = .ok (.aload_n 0, 1) := by decide +kernel
theorem dX0_init_5 : decode cX0_init 5 = .ok (.sipush 8192, 3) := by decide +kernel
theorem dX0_init_8 : decode cX0_init 8 = .ok (.newarray .long, 2) := by decide +kernel
theorem dX0_init_10 : decode cX0_init 10 = .ok (.putfield 9, 3) := by decide +kernel
theorem dX0_init_13 : decode cX0_init 13 = .ok (.aload_n 0, 1) := by decide +kernel
theorem dX0_init_14 : decode cX0_init 14 = .ok (.new 15, 3) := by decide +kernel
theorem dX0_init_17 : decode cX0_init 17 = .ok (.dup, 1) := by decide +kernel
theorem dX0_init_18 : decode cX0_init 18 = .ok (.invokespecial 17, 3) := by decide +kernel
theorem dX0_init_21 : decode cX0_init 21 = .ok (.putfield 18, 3) := by decide +kernel
theorem dX0_init_24 : decode cX0_init 24 = .ok (.return_, 1) := by decide +kernel
theorem dX0_isMultiplier_0 : decode cX0_isMultiplier 0 = .ok (.iload_n 0, 1) := by decide +kernel
theorem dX0_isMultiplier_1 : decode cX0_isMultiplier 1 = .ok (.ldc 22, 2) := by decide +kernel
theorem dX0_isMultiplier_3 : decode cX0_isMultiplier 3 = .ok (.iand, 1) := by decide +kernel
theorem dX0_isMultiplier_4 : decode cX0_isMultiplier 4 = .ok (.sipush 304, 3) := by decide +kernel
theorem dX0_isMultiplier_7 : decode cX0_isMultiplier 7 = .ok (.if_icmp .ne 7, 3) := by decide +kernel
theorem dX0_isMultiplier_10 : decode cX0_isMultiplier 10 = .ok (.iconst 1, 1) := by decide +kernel
theorem dX0_isMultiplier_11 : decode cX0_isMultiplier 11 = .ok (.goto 4, 3) := by decide +kernel
theorem dX0_isMultiplier_14 : decode cX0_isMultiplier 14 = .ok (.iconst 0, 1) := by decide +kernel
theorem dX0_isMultiplier_15 : decode cX0_isMultiplier 15 = .ok (.ireturn, 1) := by decide +kernel
set_option maxRecDepth 20000 in
theorem ggX0_wordAt_X0_isMultiplier : GoodIn wsX0_wordAt wsX0_isMultiplier := goodIn_r _ [7, 8] (by decide +kernel) (by decide +kernel)
set_option maxRecDepth 20000 in
theorem gX0_wordAt_X0_isMultiplier : GoodIn wsX0_wordAt (va_wsS RX0 23 yX0_isMultiplier wsX0_isMultiplier) := goodIn_app (goodIn_of _ (by decide +kernel)) ggX0_wordAt_X0_isMultiplier
set_option maxRecDepth 20000 in
theorem ggX0_wordAt_X0_slotOf : GoodIn wsX0_wordAt wsX0_slotOf := goodIn_r _ [11] (by decide +kernel) (by decide +kernel)
set_option maxRecDepth 20000 in
theorem gX0_wordAt_X0_slotOf : GoodIn wsX0_wordAt (va_wsS RX0 27 yX0_slotOf wsX0_slotOf) := goodIn_app (goodIn_of _ (by decide +kernel)) ggX0_wordAt_X0_slotOf
set_option maxRecDepth 20000 in
theorem ggX0_wordAt_X1_wordAtSlot : GoodIn wsX0_wordAt wsX1_wordAtSlot := goodIn_r _ [15, 16, 17, 18, 19, 20, 26, 27, 28, 29, 30, 31] (by decide +kernel) (by decide +kernel)
set_option maxRecDepth 20000 in
theorem gX0_wordAt_X1_wordAtSlot_n31 : GoodIn wsX0_wordAt (wsX1_wordAtSlot) := ggX0_wordAt_X1_wordAtSlot
set_option maxRecDepth 20000 in
theorem ggX0_wordAt_X0_cellOf : GoodIn wsX0_wordAt wsX0_cellOf := goodIn_r _ [23, 3] (by decide +kernel) (by decide +kernel)
set_option maxRecDepth 20000 in
theorem gX0_wordAt_X0_cellOf : GoodIn wsX0_wordAt (va_wsS RX0 34 yX0_cellOf wsX0_cellOf) := goodIn_app (goodIn_of _ (by decide +kernel)) ggX0_wordAt_X0_cellOf
theorem dX0_wordAt_0 : decode cX0_wordAt 0 = .ok (.iload_n 1, 1) := by decide +kernel
theorem dX0_wordAt_1 : decode cX0_wordAt 1 = .ok (.invokestatic 23, 3) := by decide +kernel
theorem dX0_wordAt_4 : decode cX0_wordAt 4 = .ok (.ifCond .eq 15, 3) := by decide +kernel
theorem dX0_wordAt_7 : decode cX0_wordAt 7 = .ok (.aload_n 0, 1) := by decide +kernel
theorem dX0_wordAt_8 : decode cX0_wordAt 8 = .ok (.getfield 18, 3) := by decide +kernel
theorem dX0_wordAt_11 : decode cX0_wordAt 11 = .ok (.iload_n 1, 1) := by decide +kernel
theorem dX0_wordAt_12 : decode cX0_wordAt 12 = .ok (.invokestatic 27, 3) := by decide +kernel
theorem dX0_wordAt_15 : decode cX0_wordAt 15 = .ok (.invokevirtual 31, 3) := by decide +kernel
theorem dX0_wordAt_18 : decode cX0_wordAt 18 = .ok (.ireturn, 1) := by decide +kernel
theorem dX0_wordAt_19 : decode cX0_wordAt 19 = .ok (.aload_n 0, 1) := by decide +kernel
theorem dX0_wordAt_20 : decode cX0_wordAt 20 = .ok (.getfield 9, 3) := by decide +kernel
theorem dX0_wordAt_23 : decode cX0_wordAt 23 = .ok (.iload_n 1, 1) := by decide +kernel
theorem dX0_wordAt_24 : decode cX0_wordAt 24 = .ok (.invokestatic 34, 3) := by decide +kernel
theorem dX0_wordAt_27 : decode cX0_wordAt 27 = .ok (.laload, 1) := by decide +kernel
theorem dX0_wordAt_28 : decode cX0_wordAt 28 = .ok (.iload_n 1, 1) := by decide +kernel
theorem dX0_wordAt_29 : decode cX0_wordAt 29 = .ok (.bipush 6, 2) := by decide +kernel
theorem dX0_wordAt_31 : decode cX0_wordAt 31 = .ok (.iand, 1) := by decide +kernel
theorem dX0_wordAt_32 : decode cX0_wordAt 32 = .ok (.bipush 8, 2) := by decide +kernel
theorem dX0_wordAt_34 : decode cX0_wordAt 34 = .ok (.imul, 1) := by decide +kernel
theorem dX0_wordAt_35 : decode cX0_wordAt 35 = .ok (.lushr, 1) := by decide +kernel
theorem dX0_wordAt_36 : decode cX0_wordAt 36 = .ok (.l2i, 1) := by decide +kernel
theorem dX0_wordAt_37 : decode cX0_wordAt 37 = .ok (.ldc 37, 2) := by decide +kernel
theorem dX0_wordAt_39 : decode cX0_wordAt 39 = .ok (.iand, 1) := by decide +kernel
theorem dX0_wordAt_40 : decode cX0_wordAt 40 = .ok (.ireturn, 1) := by decide +kernel
set_option maxRecDepth 20000 in
theorem ggX0_byteAt_X0_wordAt : GoodIn wsX0_byteAt wsX0_wordAt := goodIn_r _ [5, 6, 7, 8, 9, 10, 4, 11, 12, 13, 14, 15, 16, 17, 18, 19, 20, 21, 22, 23, 24, 25, 26, 27, 28, 29, 30, 31, 32, 33, 34, 35] (by decide +kernel) (by decide +kernel)
set_option maxRecDepth 20000 in
theorem gX0_byteAt_X0_wordAt : GoodIn wsX0_byteAt (wsV RX0 38 RX0 yX0_wordAt wsX0_wordAt) := goodIn_app (goodIn_of _ (by decide +kernel)) ggX0_byteAt_X0_wordAt
theorem dX0_byteAt_0 : decode cX0_byteAt 0 = .ok (.aload_n 0, 1) := by decide +kernel
theorem dX0_byteAt_1 : decode cX0_byteAt 1 = .ok (.iload_n 1, 1) := by decide +kernel
theorem dX0_byteAt_2 : decode cX0_byteAt 2 = .ok (.invokevirtual 38, 3) := by decide +kernel
theorem dX0_byteAt_5 : decode cX0_byteAt 5 = .ok (.istore_n 2, 1) := by decide +kernel
theorem dX0_byteAt_6 : decode cX0_byteAt 6 = .ok (.iload_n 1, 1) := by decide +kernel
theorem dX0_byteAt_7 : decode cX0_byteAt 7 = .ok (.iconst 1, 1) := by decide +kernel
theorem dX0_byteAt_8 : decode cX0_byteAt 8 = .ok (.iand, 1) := by decide +kernel
theorem dX0_byteAt_9 : decode cX0_byteAt 9 = .ok (.ifCond .ne 11, 3) := by decide +kernel
theorem dX0_byteAt_12 : decode cX0_byteAt 12 = .ok (.iload_n 2, 1) := by decide +kernel
theorem dX0_byteAt_13 : decode cX0_byteAt 13 = .ok (.sipush 255, 3) := by decide +kernel
theorem dX0_byteAt_16 : decode cX0_byteAt 16 = .ok (.iand, 1) := by decide +kernel
theorem dX0_byteAt_17 : decode cX0_byteAt 17 = .ok (.goto 7, 3) := by decide +kernel
theorem dX0_byteAt_20 : decode cX0_byteAt 20 = .ok (.iload_n 2, 1) := by decide +kernel
theorem dX0_byteAt_21 : decode cX0_byteAt 21 = .ok (.bipush 8, 2) := by decide +kernel
theorem dX0_byteAt_23 : decode cX0_byteAt 23 = .ok (.ishr, 1) := by decide +kernel
theorem dX0_byteAt_24 : decode cX0_byteAt 24 = .ok (.ireturn, 1) := by decide +kernel
set_option maxRecDepth 20000 in
theorem ggX0_writeWord_X0_isMultiplier : GoodIn wsX0_writeWord wsX0_isMultiplier := goodIn_r _ [5, 6] (by decide +kernel) (by decide +kernel)
set_option maxRecDepth 20000 in
theorem gX0_writeWord_X0_isMultiplier : GoodIn wsX0_writeWord (va_wsS RX0 23 yX0_isMultiplier wsX0_isMultiplier) := goodIn_app (goodIn_of _ (by decide +kernel)) ggX0_writeWord_X0_isMultiplier
set_option maxRecDepth 20000 in
theorem ggX0_writeWord_X0_slotOf : GoodIn wsX0_writeWord wsX0_slotOf := goodIn_r _ [9] (by decide +kernel) (by decide +kernel)
set_option maxRecDepth 20000 in
theorem gX0_writeWord_X0_slotOf : GoodIn wsX0_writeWord (va_wsS RX0 27 yX0_slotOf wsX0_slotOf) := goodIn_app (goodIn_of _ (by decide +kernel)) ggX0_writeWord_X0_slotOf
set_option maxRecDepth 20000 in
theorem ggX0_writeWord_X1_write : GoodIn wsX0_writeWord wsX1_write := goodIn_r _ [13, 14, 15, 16, 17, 11, 18, 19, 20, 21, 22, 23, 24, 25, 26, 27, 28, 29, 30, 44, 45, 46, 47, 48, 49] (by decide +kernel) (by decide +kernel)
set_option maxRecDepth 20000 in
theorem gX0_writeWord_X1_write_n41 : GoodIn wsX0_writeWord (wsX1_write) := ggX0_writeWord_X1_write
set_option maxRecDepth 20000 in
theorem ggX0_writeWord_X0_placeWord : GoodIn wsX0_writeWord wsX0_placeWord := goodIn_r _ [34, 35, 36, 37, 38, 39, 4, 40, 41, 42, 43] (by decide +kernel) (by decide +kernel)
set_option maxRecDepth 20000 in
theorem gX0_writeWord_X0_placeWord : GoodIn wsX0_writeWord (wsV RX0 45 RX0 yX0_placeWord wsX0_placeWord) := goodIn_app (goodIn_of _ (by decide +kernel)) ggX0_writeWord_X0_placeWord
theorem dX0_writeWord_0 : decode cX0_writeWord 0 = .ok (.iload_n 1, 1) := by decide +kernel
theorem dX0_writeWord_1 : decode cX0_writeWord 1 = .ok (.invokestatic 23, 3) := by decide +kernel
theorem dX0_writeWord_4 : decode cX0_writeWord 4 = .ok (.ifCond .eq 18, 3) := by decide +kernel
theorem dX0_writeWord_7 : decode cX0_writeWord 7 = .ok (.aload_n 0, 1) := by decide +kernel
theorem dX0_writeWord_8 : decode cX0_writeWord 8 = .ok (.getfield 18, 3) := by decide +kernel
theorem dX0_writeWord_11 : decode cX0_writeWord 11 = .ok (.iload_n 1, 1) := by decide +kernel
theorem dX0_writeWord_12 : decode cX0_writeWord 12 = .ok (.invokestatic 27, 3) := by decide +kernel
theorem dX0_writeWord_15 : decode cX0_writeWord 15 = .ok (.iload_n 2, 1) := by decide +kernel
theorem dX0_writeWord_16 : decode cX0_writeWord 16 = .ok (.invokevirtual 41, 3) := by decide +kernel
theorem dX0_writeWord_19 : decode cX0_writeWord 19 = .ok (.goto 9, 3) := by decide +kernel
theorem dX0_writeWord_22 : decode cX0_writeWord 22 = .ok (.aload_n 0, 1) := by decide +kernel
theorem dX0_writeWord_23 : decode cX0_writeWord 23 = .ok (.iload_n 1, 1) := by decide +kernel
theorem dX0_writeWord_24 : decode cX0_writeWord 24 = .ok (.iload_n 2, 1) := by decide +kernel
theorem dX0_writeWord_25 : decode cX0_writeWord 25 = .ok (.invokevirtual 45, 3) := by decide +kernel
theorem dX0_writeWord_28 : decode cX0_writeWord 28 = .ok (.return_, 1) := by decide +kernel
set_option maxRecDepth 20000 in
theorem ggX0_writeByte_X0_isMultiplier : GoodIn wsX0_writeByte wsX0_isMultiplier := goodIn_r _ [5, 6] (by decide +kernel) (by decide +kernel)
set_option maxRecDepth 20000 in
theorem gX0_writeByte_X0_isMultiplier : GoodIn wsX0_writeByte (va_wsS RX0 23 yX0_isMultiplier wsX0_isMultiplier) := goodIn_app (goodIn_of _ (by decide +kernel)) ggX0_writeByte_X0_isMultiplier
set_option maxRecDepth 20000 in
theorem ggX0_writeByte_X0_placeByte : GoodIn wsX0_writeByte wsX0_placeByte := goodIn_r _ [10, 11, 1, 12, 13, 14, 4, 15, 16, 17, 2, 3, 5, 6, 18, 19, 20, 21, 22, 23, 24, 25, 26, 27, 28, 29, 30, 31, 32, 33, 34, 35, 36, 37, 38, 39, 40, 41, 54, 55, 56, 57, 58, 59, 60, 61] (by decide +kernel) (by decide +kernel)
set_option maxRecDepth 20000 in
theorem gX0_writeByte_X0_placeByte : GoodIn wsX0_writeByte (wsV RX0 48 RX0 yX0_placeByte wsX0_placeByte) := goodIn_app (goodIn_of _ (by decide +kernel)) ggX0_writeByte_X0_placeByte
set_option maxRecDepth 20000 in
theorem ggX0_writeByte_X0_slotOf : GoodIn wsX0_writeByte wsX0_slotOf := goodIn_r _ [20] (by decide +kernel) (by decide +kernel)
set_option maxRecDepth 20000 in
theorem gX0_writeByte_X0_slotOf : GoodIn wsX0_writeByte (va_wsS RX0 27 yX0_slotOf wsX0_slotOf) := goodIn_app (goodIn_of _ (by decide +kernel)) ggX0_writeByte_X0_slotOf
set_option maxRecDepth 20000 in
theorem ggX0_writeByte_X1_write : GoodIn wsX0_writeByte wsX1_write := goodIn_r _ [44, 45, 46, 33, 34, 22, 35, 25, 26, 27, 28, 29, 47, 48, 49, 50, 51, 52, 53, 56, 57, 58, 59, 60, 61] (by decide +kernel) (by decide +kernel)
set_option maxRecDepth 20000 in
theorem gX0_writeByte_X1_write_n41 : GoodIn wsX0_writeByte (wsX1_write) := ggX0_writeByte_X1_write
theorem dX0_writeByte_0 : decode cX0_writeByte 0 = .ok (.iload_n 1, 1) := by decide +kernel
theorem dX0_writeByte_1 : decode cX0_writeByte 1 = .ok (.invokestatic 23, 3) := by decide +kernel
theorem dX0_writeByte_4 : decode cX0_writeByte 4 = .ok (.ifCond .ne 12, 3) := by decide +kernel
theorem dX0_writeByte_7 : decode cX0_writeByte 7 = .ok (.aload_n 0, 1) := by decide +kernel
theorem dX0_writeByte_8 : decode cX0_writeByte 8 = .ok (.iload_n 1, 1) := by decide +kernel
theorem dX0_writeByte_9 : decode cX0_writeByte 9 = .ok (.iload_n 2, 1) := by decide +kernel
theorem dX0_writeByte_10 : decode cX0_writeByte 10 = .ok (.invokevirtual 48, 3) := by decide +kernel
theorem dX0_writeByte_13 : decode cX0_writeByte 13 = .ok (.goto 21, 3) := by decide +kernel
theorem dX0_writeByte_16 : decode cX0_writeByte 16 = .ok (.iload_n 1, 1) := by decide +kernel
theorem dX0_writeByte_17 : decode cX0_writeByte 17 = .ok (.iconst 1, 1) := by decide +kernel
theorem dX0_writeByte_18 : decode cX0_writeByte 18 = .ok (.iand, 1) := by decide +kernel
theorem dX0_writeByte_19 : decode cX0_writeByte 19 = .ok (.ifCond .ne 15, 3) := by decide +kernel
theorem dX0_writeByte_22 : decode cX0_writeByte 22 = .ok (.aload_n 0, 1) := by decide +kernel
theorem dX0_writeByte_23 : decode cX0_writeByte 23 = .ok (.getfield 18, 3) := by decide +kernel
theorem dX0_writeByte_26 : decode cX0_writeByte 26 = .ok (.iload_n 1, 1) := by decide +kernel
theorem dX0_writeByte_27 : decode cX0_writeByte 27 = .ok (.invokestatic 27, 3) := by decide +kernel
theorem dX0_writeByte_30 : decode cX0_writeByte 30 = .ok (.iload_n 2, 1) := by decide +kernel
theorem dX0_writeByte_31 : decode cX0_writeByte 31 = .ok (.invokevirtual 41, 3) := by decide +kernel
theorem dX0_writeByte_34 : decode cX0_writeByte 34 = .ok (.return_, 1) := by decide +kernel
set_option maxRecDepth 20000 in
theorem ggX0_placeByte_X0_wordAt : GoodIn wsX0_placeByte wsX0_wordAt := goodIn_r _ [7, 2, 8, 9, 10, 11, 6, 12, 13, 14, 15, 16, 17, 18, 19, 20, 21, 22, 23, 24, 25, 26, 27, 28, 38, 39, 40, 41, 42, 43, 44, 45] (by decide +kernel) (by decide +kernel)
set_option maxRecDepth 20000 in
theorem gX0_placeByte_X0_wordAt : GoodIn wsX0_placeByte (wsV RX0 38 RX0 yX0_wordAt wsX0_wordAt) := goodIn_app (goodIn_of _ (by decide +kernel)) ggX0_placeByte_X0_wordAt
set_option maxRecDepth 20000 in
theorem ggX0_placeByte_X0_isMultiplier : GoodIn wsX0_placeByte wsX0_isMultiplier := goodIn_r _ [12, 13] (by decide +kernel) (by decide +kernel)
set_option maxRecDepth 20000 in
theorem gX0_placeByte_X0_isMultiplier : GoodIn wsX0_placeByte (va_wsS RX0 23 yX0_isMultiplier wsX0_isMultiplier) := goodIn_app (goodIn_of _ (by decide +kernel)) ggX0_placeByte_X0_isMultiplier
set_option maxRecDepth 20000 in
theorem ggX0_placeByte_X0_slotOf : GoodIn wsX0_placeByte wsX0_slotOf := goodIn_r _ [16] (by decide +kernel) (by decide +kernel)
set_option maxRecDepth 20000 in
theorem gX0_placeByte_X0_slotOf : GoodIn wsX0_placeByte (va_wsS RX0 27 yX0_slotOf wsX0_slotOf) := goodIn_app (goodIn_of _ (by decide +kernel)) ggX0_placeByte_X0_slotOf
set_option maxRecDepth 20000 in
theorem ggX0_placeByte_X1_placeWordAtSlot : GoodIn wsX0_placeByte wsX1_placeWordAtSlot := goodIn_r _ [31, 21, 22, 23, 24, 25, 40, 41, 42, 43, 44, 45] (by decide +kernel) (by decide +kernel)
set_option maxRecDepth 20000 in
theorem gX0_placeByte_X1_placeWordAtSlot_n52 : GoodIn wsX0_placeByte (wsX1_placeWordAtSlot) := ggX0_placeByte_X1_placeWordAtSlot
set_option maxRecDepth 20000 in
theorem ggX0_placeByte_X0_placeWord : GoodIn wsX0_placeByte wsX0_placeWord := goodIn_r _ [35, 8, 36, 37, 26, 27, 6, 28, 9, 38, 39] (by decide +kernel) (by decide +kernel)
set_option maxRecDepth 20000 in
theorem gX0_placeByte_X0_placeWord : GoodIn wsX0_placeByte (wsV RX0 45 RX0 yX0_placeWord wsX0_placeWord) := goodIn_app (goodIn_of _ (by decide +kernel)) ggX0_placeByte_X0_placeWord
theorem dX0_placeByte_0 : decode cX0_placeByte 0 = .ok (.aload_n 0, 1) := by decide +kernel
theorem dX0_placeByte_1 : decode cX0_placeByte 1 = .ok (.iload_n 1, 1) := by decide +kernel
theorem dX0_placeByte_2 : decode cX0_placeByte 2 = .ok (.invokevirtual 38, 3) := by decide +kernel
theorem dX0_placeByte_5 : decode cX0_placeByte 5 = .ok (.istore_n 3, 1) := by decide +kernel
theorem dX0_placeByte_6 : decode cX0_placeByte 6 = .ok (.iload_n 1, 1) := by decide +kernel
theorem dX0_placeByte_7 : decode cX0_placeByte 7 = .ok (.iconst 1, 1) := by decide +kernel
theorem dX0_placeByte_8 : decode cX0_placeByte 8 = .ok (.iand, 1) := by decide +kernel
theorem dX0_placeByte_9 : decode cX0_placeByte 9 = .ok (.ifCond .ne 12, 3) := by decide +kernel
theorem dX0_placeByte_12 : decode cX0_placeByte 12 = .ok (.iload_n 3, 1) := by decide +kernel
theorem dX0_placeByte_13 : decode cX0_placeByte 13 = .ok (.ldc 51, 2) := by decide +kernel
theorem dX0_placeByte_15 : decode cX0_placeByte 15 = .ok (.iand, 1) := by decide +kernel
theorem dX0_placeByte_16 : decode cX0_placeByte 16 = .ok (.iload_n 2, 1) := by decide +kernel
theorem dX0_placeByte_17 : decode cX0_placeByte 17 = .ok (.ior, 1) := by decide +kernel
theorem dX0_placeByte_18 : decode cX0_placeByte 18 = .ok (.goto 13, 3) := by decide +kernel
theorem dX0_placeByte_21 : decode cX0_placeByte 21 = .ok (.iload_n 3, 1) := by decide +kernel
theorem dX0_placeByte_22 : decode cX0_placeByte 22 = .ok (.sipush 255, 3) := by decide +kernel
theorem dX0_placeByte_25 : decode cX0_placeByte 25 = .ok (.iand, 1) := by decide +kernel
theorem dX0_placeByte_26 : decode cX0_placeByte 26 = .ok (.iload_n 2, 1) := by decide +kernel
theorem dX0_placeByte_27 : decode cX0_placeByte 27 = .ok (.bipush 8, 2) := by decide +kernel
theorem dX0_placeByte_29 : decode cX0_placeByte 29 = .ok (.ishl, 1) := by decide +kernel
theorem dX0_placeByte_30 : decode cX0_placeByte 30 = .ok (.ior, 1) := by decide +kernel
theorem dX0_placeByte_31 : decode cX0_placeByte 31 = .ok (.istore 4, 2) := by decide +kernel
theorem dX0_placeByte_33 : decode cX0_placeByte 33 = .ok (.iload_n 1, 1) := by decide +kernel
theorem dX0_placeByte_34 : decode cX0_placeByte 34 = .ok (.invokestatic 23, 3) := by decide +kernel
theorem dX0_placeByte_37 : decode cX0_placeByte 37 = .ok (.ifCond .eq 19, 3) := by decide +kernel
theorem dX0_placeByte_40 : decode cX0_placeByte 40 = .ok (.aload_n 0, 1) := by decide +kernel
theorem dX0_placeByte_41 : decode cX0_placeByte 41 = .ok (.getfield 18, 3) := by decide +kernel
theorem dX0_placeByte_44 : decode cX0_placeByte 44 = .ok (.iload_n 1, 1) := by decide +kernel
theorem dX0_placeByte_45 : decode cX0_placeByte 45 = .ok (.invokestatic 27, 3) := by decide +kernel
theorem dX0_placeByte_48 : decode cX0_placeByte 48 = .ok (.iload 4, 2) := by decide +kernel
theorem dX0_placeByte_50 : decode cX0_placeByte 50 = .ok (.invokevirtual 52, 3) := by decide +kernel
theorem dX0_placeByte_53 : decode cX0_placeByte 53 = .ok (.goto 10, 3) := by decide +kernel
theorem dX0_placeByte_56 : decode cX0_placeByte 56 = .ok (.aload_n 0, 1) := by decide +kernel
theorem dX0_placeByte_57 : decode cX0_placeByte 57 = .ok (.iload_n 1, 1) := by decide +kernel
theorem dX0_placeByte_58 : decode cX0_placeByte 58 = .ok (.iload 4, 2) := by decide +kernel
theorem dX0_placeByte_60 : decode cX0_placeByte 60 = .ok (.invokevirtual 45, 3) := by decide +kernel
theorem dX0_placeByte_63 : decode cX0_placeByte 63 = .ok (.return_, 1) := by decide +kernel
set_option maxRecDepth 20000 in
theorem ggX0_placeWord_X0_cellOf : GoodIn wsX0_placeWord wsX0_cellOf := goodIn_r _ [7, 8] (by decide +kernel) (by decide +kernel)
set_option maxRecDepth 20000 in
theorem gX0_placeWord_X0_cellOf : GoodIn wsX0_placeWord (va_wsS RX0 34 yX0_cellOf wsX0_cellOf) := goodIn_app (goodIn_of _ (by decide +kernel)) ggX0_placeWord_X0_cellOf
theorem dX0_placeWord_0 : decode cX0_placeWord 0 = .ok (.iload_n 1, 1) := by decide +kernel
theorem dX0_placeWord_1 : decode cX0_placeWord 1 = .ok (.bipush 6, 2) := by decide +kernel
theorem dX0_placeWord_3 : decode cX0_placeWord 3 = .ok (.iand, 1) := by decide +kernel
theorem dX0_placeWord_4 : decode cX0_placeWord 4 = .ok (.bipush 8, 2) := by decide +kernel
theorem dX0_placeWord_6 : decode cX0_placeWord 6 = .ok (.imul, 1) := by decide +kernel
theorem dX0_placeWord_7 : decode cX0_placeWord 7 = .ok (.istore_n 3, 1) := by decide +kernel
theorem dX0_placeWord_8 : decode cX0_placeWord 8 = .ok (.iload_n 1, 1) := by decide +kernel
theorem dX0_placeWord_9 : decode cX0_placeWord 9 = .ok (.invokestatic 34, 3) := by decide +kernel
theorem dX0_placeWord_12 : decode cX0_placeWord 12 = .ok (.istore 4, 2) := by decide +kernel
theorem dX0_placeWord_14 : decode cX0_placeWord 14 = .ok (.aload_n 0, 1) := by decide +kernel
theorem dX0_placeWord_15 : decode cX0_placeWord 15 = .ok (.getfield 9, 3) := by decide +kernel
theorem dX0_placeWord_18 : decode cX0_placeWord 18 = .ok (.iload 4, 2) := by decide +kernel
theorem dX0_placeWord_20 : decode cX0_placeWord 20 = .ok (.aload_n 0, 1) := by decide +kernel
theorem dX0_placeWord_21 : decode cX0_placeWord 21 = .ok (.getfield 9, 3) := by decide +kernel
theorem dX0_placeWord_24 : decode cX0_placeWord 24 = .ok (.iload 4, 2) := by decide +kernel
theorem dX0_placeWord_26 : decode cX0_placeWord 26 = .ok (.laload, 1) := by decide +kernel
theorem dX0_placeWord_27 : decode cX0_placeWord 27 = .ok (.ldc2_w 55, 3) := by decide +kernel
theorem dX0_placeWord_30 : decode cX0_placeWord 30 = .ok (.iload_n 3, 1) := by decide +kernel
theorem dX0_placeWord_31 : decode cX0_placeWord 31 = .ok (.lshl, 1) := by decide +kernel
theorem dX0_placeWord_32 : decode cX0_placeWord 32 = .ok (.ldc2_w 57, 3) := by decide +kernel
theorem dX0_placeWord_35 : decode cX0_placeWord 35 = .ok (.lxor, 1) := by decide +kernel
theorem dX0_placeWord_36 : decode cX0_placeWord 36 = .ok (.land, 1) := by decide +kernel
theorem dX0_placeWord_37 : decode cX0_placeWord 37 = .ok (.iload_n 2, 1) := by decide +kernel
theorem dX0_placeWord_38 : decode cX0_placeWord 38 = .ok (.i2l, 1) := by decide +kernel
theorem dX0_placeWord_39 : decode cX0_placeWord 39 = .ok (.iload_n 3, 1) := by decide +kernel
theorem dX0_placeWord_40 : decode cX0_placeWord 40 = .ok (.lshl, 1) := by decide +kernel
theorem dX0_placeWord_41 : decode cX0_placeWord 41 = .ok (.lor, 1) := by decide +kernel
theorem dX0_placeWord_42 : decode cX0_placeWord 42 = .ok (.lastore, 1) := by decide +kernel
theorem dX0_placeWord_43 : decode cX0_placeWord 43 = .ok (.return_, 1) := by decide +kernel
theorem dX0_cellOf_0 : decode cX0_cellOf 0 = .ok (.iload_n 0, 1) := by decide +kernel
theorem dX0_cellOf_1 : decode cX0_cellOf 1 = .ok (.ldc 37, 2) := by decide +kernel
theorem dX0_cellOf_3 : decode cX0_cellOf 3 = .ok (.iand, 1) := by decide +kernel
theorem dX0_cellOf_4 : decode cX0_cellOf 4 = .ok (.iconst 3, 1) := by decide +kernel
theorem dX0_cellOf_5 : decode cX0_cellOf 5 = .ok (.ishr, 1) := by decide +kernel
theorem dX0_cellOf_6 : decode cX0_cellOf 6 = .ok (.ireturn, 1) := by decide +kernel
theorem dX0_slotOf_0 : decode cX0_slotOf 0 = .ok (.iload_n 0, 1) := by decide +kernel
theorem dX0_slotOf_1 : decode cX0_slotOf 1 = .ok (.iconst 1, 1) := by decide +kernel
theorem dX0_slotOf_2 : decode cX0_slotOf 2 = .ok (.ishr, 1) := by decide +kernel
theorem dX0_slotOf_3 : decode cX0_slotOf 3 = .ok (.bipush 7, 2) := by decide +kernel
theorem dX0_slotOf_5 : decode cX0_slotOf 5 = .ok (.iand, 1) := by decide +kernel
theorem dX0_slotOf_6 : decode cX0_slotOf 6 = .ok (.ireturn, 1) := by decide +kernel
theorem dX1_init_0 : decode cX1_init 0 = .ok (.aload_n 0, 1) := by decide +kernel
theorem dX1_init_1 : decode cX1_init 1 = .ok (.invokespecial 1, 3) := by decide +kernel
theorem dX1_init_4 : decode cX1_init 4 = .ok (.return_, 1) := by decide +kernel
theorem dX1_clear_0 : decode cX1_clear 0 = .ok (.aload_n 0, 1) := by decide +kernel
theorem dX1_clear_1 : decode cX1_clear 1 = .ok (.iconst 0, 1) := by decide +kernel
theorem dX1_clear_2 : decode cX1_clear 2 = .ok (.putfield 7, 3) := by decide +kernel
theorem dX1_clear_5 : decode cX1_clear 5 = .ok (.aload_n 0, 1) := by decide +kernel
theorem dX1_clear_6 : decode cX1_clear 6 = .ok (.iconst 0, 1) := by decide +kernel
theorem dX1_clear_7 : decode cX1_clear 7 = .ok (.putfield 13, 3) := by decide +kernel
theorem dX1_clear_10 : decode cX1_clear 10 = .ok (.aload_n 0, 1) := by decide +kernel
theorem dX1_clear_11 : decode cX1_clear 11 = .ok (.iconst 0, 1) := by decide +kernel
theorem dX1_clear_12 : decode cX1_clear 12 = .ok (.putfield 16, 3) := by decide +kernel
theorem dX1_clear_15 : decode cX1_clear 15 = .ok (.aload_n 0, 1) := by decide +kernel
theorem dX1_clear_16 : decode cX1_clear 16 = .ok (.iconst 0, 1) := by decide +kernel
theorem dX1_clear_17 : decode cX1_clear 17 = .ok (.putfield 19, 3) := by decide +kernel
theorem dX1_clear_20 : decode cX1_clear 20 = .ok (.aload_n 0, 1) := by decide +kernel
theorem dX1_clear_21 : decode cX1_clear 21 = .ok (.iconst 0, 1) := by decide +kernel
theorem dX1_clear_22 : decode cX1_clear 22 = .ok (.putfield 22, 3) := by decide +kernel
theorem dX1_clear_25 : decode cX1_clear 25 = .ok (.aload_n 0, 1) := by decide +kernel
theorem dX1_clear_26 : decode cX1_clear 26 = .ok (.iconst 0, 1) := by decide +kernel
theorem dX1_clear_27 : decode cX1_clear 27 = .ok (.putfield 25, 3) := by decide +kernel
theorem dX1_clear_30 : decode cX1_clear 30 = .ok (.return_, 1) := by decide +kernel
theorem dX1_wordAtSlot_0 : decode cX1_wordAtSlot 0 = .ok (.iload_n 1, 1) := by decide +kernel
theorem dX1_wordAtSlot_1 : decode cX1_wordAtSlot 1 = .ok (.tableswitch 51 4 7 #[31, 36, 41, 46], 31) := by decide +kernel
theorem dX1_wordAtSlot_32 : decode cX1_wordAtSlot 32 = .ok (.aload_n 0, 1) := by decide +kernel
theorem dX1_wordAtSlot_33 : decode cX1_wordAtSlot 33 = .ok (.getfield 13, 3) := by decide +kernel
theorem dX1_wordAtSlot_36 : decode cX1_wordAtSlot 36 = .ok (.ireturn, 1) := by decide +kernel
theorem dX1_wordAtSlot_37 : decode cX1_wordAtSlot 37 = .ok (.aload_n 0, 1) := by decide +kernel
theorem dX1_wordAtSlot_38 : decode cX1_wordAtSlot 38 = .ok (.getfield 16, 3) := by decide +kernel
theorem dX1_wordAtSlot_41 : decode cX1_wordAtSlot 41 = .ok (.ireturn, 1) := by decide +kernel
theorem dX1_wordAtSlot_42 : decode cX1_wordAtSlot 42 = .ok (.aload_n 0, 1) := by decide +kernel
theorem dX1_wordAtSlot_43 : decode cX1_wordAtSlot 43 = .ok (.getfield 19, 3) := by decide +kernel
theorem dX1_wordAtSlot_46 : decode cX1_wordAtSlot 46 = .ok (.ireturn, 1) := by decide +kernel
theorem dX1_wordAtSlot_47 : decode cX1_wordAtSlot 47 = .ok (.aload_n 0, 1) := by decide +kernel
theorem dX1_wordAtSlot_48 : decode cX1_wordAtSlot 48 = .ok (.getfield 22, 3) := by decide +kernel
theorem dX1_wordAtSlot_51 : decode cX1_wordAtSlot 51 = .ok (.ireturn, 1) := by decide +kernel
theorem dX1_wordAtSlot_52 : decode cX1_wordAtSlot 52 = .ok (.aload_n 0, 1) := by decide +kernel
theorem dX1_wordAtSlot_53 : decode cX1_wordAtSlot 53 = .ok (.getfield 7, 3) := by decide +kernel
theorem dX1_wordAtSlot_56 : decode cX1_wordAtSlot 56 = .ok (.ireturn, 1) := by decide +kernel
theorem dX1_placeWordAtSlot_0 : decode cX1_placeWordAtSlot 0 = .ok (.iload_n 1, 1) := by decide +kernel
theorem dX1_placeWordAtSlot_1 : decode cX1_placeWordAtSlot 1 = .ok (.tableswitch 63 4 7 #[31, 39, 47, 55], 31) := by decide +kernel
theorem dX1_placeWordAtSlot_32 : decode cX1_placeWordAtSlot 32 = .ok (.aload_n 0, 1) := by decide +kernel
theorem dX1_placeWordAtSlot_33 : decode cX1_placeWordAtSlot 33 = .ok (.iload_n 2, 1) := by decide +kernel
theorem dX1_placeWordAtSlot_34 : decode cX1_placeWordAtSlot 34 = .ok (.putfield 13, 3) := by decide +kernel
theorem dX1_placeWordAtSlot_37 : decode cX1_placeWordAtSlot 37 = .ok (.goto 32, 3) := by decide +kernel
theorem dX1_placeWordAtSlot_40 : decode cX1_placeWordAtSlot 40 = .ok (.aload_n 0, 1) := by decide +kernel
theorem dX1_placeWordAtSlot_41 : decode cX1_placeWordAtSlot 41 = .ok (.iload_n 2, 1) := by decide +kernel
theorem dX1_placeWordAtSlot_42 : decode cX1_placeWordAtSlot 42 = .ok (.putfield 16, 3) := by decide +kernel
theorem dX1_placeWordAtSlot_45 : decode cX1_placeWordAtSlot 45 = .ok (.goto 24, 3) := by decide +kernel
theorem dX1_placeWordAtSlot_48 : decode cX1_placeWordAtSlot 48 = .ok (.aload_n 0, 1) := by decide +kernel
theorem dX1_placeWordAtSlot_49 : decode cX1_placeWordAtSlot 49 = .ok (.iload_n 2, 1) := by decide +kernel
theorem dX1_placeWordAtSlot_50 : decode cX1_placeWordAtSlot 50 = .ok (.putfield 19, 3) := by decide +kernel
theorem dX1_placeWordAtSlot_53 : decode cX1_placeWordAtSlot 53 = .ok (.goto 16, 3) := by decide +kernel
theorem dX1_placeWordAtSlot_56 : decode cX1_placeWordAtSlot 56 = .ok (.aload_n 0, 1) := by decide +kernel
theorem dX1_placeWordAtSlot_57 : decode cX1_placeWordAtSlot 57 = .ok (.iload_n 2, 1) := by decide +kernel
theorem dX1_placeWordAtSlot_58 : decode cX1_placeWordAtSlot 58 = .ok (.putfield 22, 3) := by decide +kernel
theorem dX1_placeWordAtSlot_61 : decode cX1_placeWordAtSlot 61 = .ok (.goto 8, 3) := by decide +kernel
theorem dX1_placeWordAtSlot_64 : decode cX1_placeWordAtSlot 64 = .ok (.aload_n 0, 1) := by decide +kernel
theorem dX1_placeWordAtSlot_65 : decode cX1_placeWordAtSlot 65 = .ok (.iload_n 2, 1) := by decide +kernel
theorem dX1_placeWordAtSlot_66 : decode cX1_placeWordAtSlot 66 = .ok (.putfield 7, 3) := by decide +kernel
theorem dX1_placeWordAtSlot_69 : decode cX1_placeWordAtSlot 69 = .ok (.return_, 1) := by decide +kernel
set_option maxRecDepth 20000 in
theorem ggX1_write_X1_placeWordAtSlot : GoodIn wsX1_write wsX1_placeWordAtSlot := goodIn_r _ [6, 7, 8, 9, 10, 11, 19, 20, 21, 22, 23, 24] (by decide +kernel) (by decide +kernel)
set_option maxRecDepth 20000 in
theorem gX1_write_X1_placeWordAtSlot : GoodIn wsX1_write (wsV RX1 28 RX1 yX1_placeWordAtSlot wsX1_placeWordAtSlot) := goodIn_app (goodIn_of _ (by decide +kernel)) ggX1_write_X1_placeWordAtSlot
set_option maxRecDepth 20000 in
theorem ggX1_write_X1_multiply : GoodIn wsX1_write wsX1_multiply := goodIn_r _ [15, 1, 11, 7, 9, 8, 16, 17, 10, 18, 19, 20, 21, 22, 23, 24] (by decide +kernel) (by decide +kernel)
set_option maxRecDepth 20000 in
theorem gX1_write_X1_multiply : GoodIn wsX1_write (wsV RX1 32 RX1 yX1_multiply wsX1_multiply) := goodIn_app (goodIn_of _ (by decide +kernel)) ggX1_write_X1_multiply
theorem dX1_write_0 : decode cX1_write 0 = .ok (.iload_n 1, 1) := by decide +kernel
theorem dX1_write_1 : decode cX1_write 1 = .ok (.bipush 7, 2) := by decide +kernel
theorem dX1_write_3 : decode cX1_write 3 = .ok (.if_icmp .ne 4, 3) := by decide +kernel
theorem dX1_write_6 : decode cX1_write 6 = .ok (.return_, 1) := by decide +kernel
theorem dX1_write_7 : decode cX1_write 7 = .ok (.aload_n 0, 1) := by decide +kernel
theorem dX1_write_8 : decode cX1_write 8 = .ok (.iload_n 1, 1) := by decide +kernel
theorem dX1_write_9 : decode cX1_write 9 = .ok (.iload_n 2, 1) := by decide +kernel
theorem dX1_write_10 : decode cX1_write 10 = .ok (.invokevirtual 28, 3) := by decide +kernel
theorem dX1_write_13 : decode cX1_write 13 = .ok (.iload_n 1, 1) := by decide +kernel
theorem dX1_write_14 : decode cX1_write 14 = .ok (.iconst 4, 1) := by decide +kernel
theorem dX1_write_15 : decode cX1_write 15 = .ok (.if_icmp .ge 11, 3) := by decide +kernel
theorem dX1_write_18 : decode cX1_write 18 = .ok (.aload_n 0, 1) := by decide +kernel
theorem dX1_write_19 : decode cX1_write 19 = .ok (.iload_n 1, 1) := by decide +kernel
theorem dX1_write_20 : decode cX1_write 20 = .ok (.putfield 25, 3) := by decide +kernel
theorem dX1_write_23 : decode cX1_write 23 = .ok (.goto 12, 3) := by decide +kernel
theorem dX1_write_26 : decode cX1_write 26 = .ok (.iload_n 1, 1) := by decide +kernel
theorem dX1_write_27 : decode cX1_write 27 = .ok (.iconst 4, 1) := by decide +kernel
theorem dX1_write_28 : decode cX1_write 28 = .ok (.if_icmp .ne 7, 3) := by decide +kernel
theorem dX1_write_31 : decode cX1_write 31 = .ok (.aload_n 0, 1) := by decide +kernel
theorem dX1_write_32 : decode cX1_write 32 = .ok (.invokevirtual 32, 3) := by decide +kernel
theorem dX1_write_35 : decode cX1_write 35 = .ok (.return_, 1) := by decide +kernel
theorem dX1_multiply_0 : decode cX1_multiply 0 = .ok (.aload_n 0, 1) := by decide +kernel
theorem dX1_multiply_1 : decode cX1_multiply 1 = .ok (.getfield 25, 3) := by decide +kernel
theorem dX1_multiply_4 : decode cX1_multiply 4 = .ok (.iconst 1, 1) := by decide +kernel
theorem dX1_multiply_5 : decode cX1_multiply 5 = .ok (.iand, 1) := by decide +kernel
theorem dX1_multiply_6 : decode cX1_multiply 6 = .ok (.ifCond .eq 7, 3) := by decide +kernel
theorem dX1_multiply_9 : decode cX1_multiply 9 = .ok (.iconst 1, 1) := by decide +kernel
theorem dX1_multiply_10 : decode cX1_multiply 10 = .ok (.goto 4, 3) := by decide +kernel
theorem dX1_multiply_13 : decode cX1_multiply 13 = .ok (.iconst 0, 1) := by decide +kernel
theorem dX1_multiply_14 : decode cX1_multiply 14 = .ok (.istore_n 1, 1) := by decide +kernel
theorem dX1_multiply_15 : decode cX1_multiply 15 = .ok (.aload_n 0, 1) := by decide +kernel
theorem dX1_multiply_16 : decode cX1_multiply 16 = .ok (.getfield 25, 3) := by decide +kernel
theorem dX1_multiply_19 : decode cX1_multiply 19 = .ok (.iconst 2, 1) := by decide +kernel
theorem dX1_multiply_20 : decode cX1_multiply 20 = .ok (.iand, 1) := by decide +kernel
theorem dX1_multiply_21 : decode cX1_multiply 21 = .ok (.ifCond .eq 7, 3) := by decide +kernel
theorem dX1_multiply_24 : decode cX1_multiply 24 = .ok (.iconst 1, 1) := by decide +kernel
theorem dX1_multiply_25 : decode cX1_multiply 25 = .ok (.goto 4, 3) := by decide +kernel
theorem dX1_multiply_28 : decode cX1_multiply 28 = .ok (.iconst 0, 1) := by decide +kernel
theorem dX1_multiply_29 : decode cX1_multiply 29 = .ok (.istore_n 2, 1) := by decide +kernel
theorem dX1_multiply_30 : decode cX1_multiply 30 = .ok (.iload_n 1, 1) := by decide +kernel
theorem dX1_multiply_31 : decode cX1_multiply 31 = .ok (.ifCond .eq 19, 3) := by decide +kernel
theorem dX1_multiply_34 : decode cX1_multiply 34 = .ok (.aload_n 0, 1) := by decide +kernel
theorem dX1_multiply_35 : decode cX1_multiply 35 = .ok (.getfield 7, 3) := by decide +kernel
theorem dX1_multiply_38 : decode cX1_multiply 38 = .ok (.i2s, 1) := by decide +kernel
theorem dX1_multiply_39 : decode cX1_multiply 39 = .ok (.i2l, 1) := by decide +kernel
theorem dX1_multiply_40 : decode cX1_multiply 40 = .ok (.aload_n 0, 1) := by decide +kernel
theorem dX1_multiply_41 : decode cX1_multiply 41 = .ok (.getfield 13, 3) := by decide +kernel
theorem dX1_multiply_44 : decode cX1_multiply 44 = .ok (.i2s, 1) := by decide +kernel
theorem dX1_multiply_45 : decode cX1_multiply 45 = .ok (.i2l, 1) := by decide +kernel
theorem dX1_multiply_46 : decode cX1_multiply 46 = .ok (.lmul, 1) := by decide +kernel
theorem dX1_multiply_47 : decode cX1_multiply 47 = .ok (.goto 14, 3) := by decide +kernel
theorem dX1_multiply_50 : decode cX1_multiply 50 = .ok (.aload_n 0, 1) := by decide +kernel
theorem dX1_multiply_51 : decode cX1_multiply 51 = .ok (.getfield 7, 3) := by decide +kernel
theorem dX1_multiply_54 : decode cX1_multiply 54 = .ok (.i2l, 1) := by decide +kernel
theorem dX1_multiply_55 : decode cX1_multiply 55 = .ok (.aload_n 0, 1) := by decide +kernel
theorem dX1_multiply_56 : decode cX1_multiply 56 = .ok (.getfield 13, 3) := by decide +kernel
theorem dX1_multiply_59 : decode cX1_multiply 59 = .ok (.i2l, 1) := by decide +kernel
theorem dX1_multiply_60 : decode cX1_multiply 60 = .ok (.lmul, 1) := by decide +kernel
theorem dX1_multiply_61 : decode cX1_multiply 61 = .ok (.lstore_n 3, 1) := by decide +kernel
theorem dX1_multiply_62 : decode cX1_multiply 62 = .ok (.iload_n 2, 1) := by decide +kernel
theorem dX1_multiply_63 : decode cX1_multiply 63 = .ok (.ifCond .eq 20, 3) := by decide +kernel
theorem dX1_multiply_66 : decode cX1_multiply 66 = .ok (.aload_n 0, 1) := by decide +kernel
theorem dX1_multiply_67 : decode cX1_multiply 67 = .ok (.getfield 19, 3) := by decide +kernel
theorem dX1_multiply_70 : decode cX1_multiply 70 = .ok (.i2l, 1) := by decide +kernel
theorem dX1_multiply_71 : decode cX1_multiply 71 = .ok (.bipush 16, 2) := by decide +kernel
theorem dX1_multiply_73 : decode cX1_multiply 73 = .ok (.lshl, 1) := by decide +kernel
theorem dX1_multiply_74 : decode cX1_multiply 74 = .ok (.aload_n 0, 1) := by decide +kernel
theorem dX1_multiply_75 : decode cX1_multiply 75 = .ok (.getfield 16, 3) := by decide +kernel
theorem dX1_multiply_78 : decode cX1_multiply 78 = .ok (.i2l, 1) := by decide +kernel
theorem dX1_multiply_79 : decode cX1_multiply 79 = .ok (.lor, 1) := by decide +kernel
theorem dX1_multiply_80 : decode cX1_multiply 80 = .ok (.goto 4, 3) := by decide +kernel
theorem dX1_multiply_83 : decode cX1_multiply 83 = .ok (.lconst 0, 1) := by decide +kernel
theorem dX1_multiply_84 : decode cX1_multiply 84 = .ok (.lstore 5, 2) := by decide +kernel
theorem dX1_multiply_86 : decode cX1_multiply 86 = .ok (.lload 5, 2) := by decide +kernel
theorem dX1_multiply_88 : decode cX1_multiply 88 = .ok (.lload_n 3, 1) := by decide +kernel
theorem dX1_multiply_89 : decode cX1_multiply 89 = .ok (.ladd, 1) := by decide +kernel
theorem dX1_multiply_90 : decode cX1_multiply 90 = .ok (.lstore 7, 2) := by decide +kernel
theorem dX1_multiply_92 : decode cX1_multiply 92 = .ok (.aload_n 0, 1) := by decide +kernel
theorem dX1_multiply_93 : decode cX1_multiply 93 = .ok (.lload 7, 2) := by decide +kernel
theorem dX1_multiply_95 : decode cX1_multiply 95 = .ok (.bipush 16, 2) := by decide +kernel
theorem dX1_multiply_97 : decode cX1_multiply 97 = .ok (.lshr, 1) := by decide +kernel
theorem dX1_multiply_98 : decode cX1_multiply 98 = .ok (.l2i, 1) := by decide +kernel
theorem dX1_multiply_99 : decode cX1_multiply 99 = .ok (.ldc 35, 2) := by decide +kernel
theorem dX1_multiply_101 : decode cX1_multiply 101 = .ok (.iand, 1) := by decide +kernel
theorem dX1_multiply_102 : decode cX1_multiply 102 = .ok (.putfield 19, 3) := by decide +kernel
theorem dX1_multiply_105 : decode cX1_multiply 105 = .ok (.aload_n 0, 1) := by decide +kernel
theorem dX1_multiply_106 : decode cX1_multiply 106 = .ok (.lload 7, 2) := by decide +kernel
theorem dX1_multiply_108 : decode cX1_multiply 108 = .ok (.l2i, 1) := by decide +kernel
theorem dX1_multiply_109 : decode cX1_multiply 109 = .ok (.ldc 35, 2) := by decide +kernel
theorem dX1_multiply_111 : decode cX1_multiply 111 = .ok (.iand, 1) := by decide +kernel
theorem dX1_multiply_112 : decode cX1_multiply 112 = .ok (.putfield 16, 3) := by decide +kernel
theorem dX1_multiply_115 : decode cX1_multiply 115 = .ok (.iload_n 1, 1) := by decide +kernel
theorem dX1_multiply_116 : decode cX1_multiply 116 = .ok (.ifCond .eq 26, 3) := by decide +kernel
theorem dX1_multiply_119 : decode cX1_multiply 119 = .ok (.aload_n 0, 1) := by decide +kernel
theorem dX1_multiply_120 : decode cX1_multiply 120 = .ok (.aload_n 0, 1) := by decide +kernel
theorem dX1_multiply_121 : decode cX1_multiply 121 = .ok (.getfield 19, 3) := by decide +kernel
theorem dX1_multiply_124 : decode cX1_multiply 124 = .ok (.ldc 36, 2) := by decide +kernel
theorem dX1_multiply_126 : decode cX1_multiply 126 = .ok (.iand, 1) := by decide +kernel
theorem dX1_multiply_127 : decode cX1_multiply 127 = .ok (.ifCond .eq 8, 3) := by decide +kernel
theorem dX1_multiply_130 : decode cX1_multiply 130 = .ok (.ldc 35, 2) := by decide +kernel
theorem dX1_multiply_132 : decode cX1_multiply 132 = .ok (.goto 4, 3) := by decide +kernel
theorem dX1_multiply_135 : decode cX1_multiply 135 = .ok (.iconst 0, 1) := by decide +kernel
theorem dX1_multiply_136 : decode cX1_multiply 136 = .ok (.putfield 22, 3) := by decide +kernel
theorem dX1_multiply_139 : decode cX1_multiply 139 = .ok (.goto 21, 3) := by decide +kernel
theorem dX1_multiply_142 : decode cX1_multiply 142 = .ok (.aload_n 0, 1) := by decide +kernel
theorem dX1_multiply_143 : decode cX1_multiply 143 = .ok (.lload 7, 2) := by decide +kernel
theorem dX1_multiply_145 : decode cX1_multiply 145 = .ok (.ldc2_w 37, 3) := by decide +kernel
theorem dX1_multiply_148 : decode cX1_multiply 148 = .ok (.lcmp, 1) := by decide +kernel
theorem dX1_multiply_149 : decode cX1_multiply 149 = .ok (.ifCond .le 7, 3) := by decide +kernel
theorem dX1_multiply_152 : decode cX1_multiply 152 = .ok (.iconst 1, 1) := by decide +kernel
theorem dX1_multiply_153 : decode cX1_multiply 153 = .ok (.goto 4, 3) := by decide +kernel
theorem dX1_multiply_156 : decode cX1_multiply 156 = .ok (.iconst 0, 1) := by decide +kernel
theorem dX1_multiply_157 : decode cX1_multiply 157 = .ok (.putfield 22, 3) := by decide +kernel
theorem dX1_multiply_160 : decode cX1_multiply 160 = .ok (.return_, 1) := by decide +kernel
set_option maxRecDepth 20000 in
theorem ggX2_init_X0_init : GoodIn wsX2_init wsX0_init := goodIn_r _ [11, 12, 2, 3, 13, 14, 15, 16, 17, 18, 19, 20, 21, 61, 62, 67, 68, 69, 70, 71, 72] (by decide +kernel) (by decide +kernel)
set_option maxRecDepth 20000 in
theorem gX2_init_X0_init_n11 : GoodIn wsX2_init (wsX0_init) := ggX2_init_X0_init
set_option maxRecDepth 20000 in
theorem ggX2_init_X2_init_ : GoodIn wsX2_init wsX2_init_ := goodIn_r _ [26, 9, 27, 28, 7, 29, 30, 17, 31, 32, 33, 34, 35, 36, 37, 38, 39, 6, 40, 41, 18, 14, 42, 43, 44, 45, 46, 47, 48, 49, 50, 51, 52, 53, 54, 55, 56, 57, 58, 25, 59, 60, 63, 64, 65, 66, 61, 62, 67, 68, 69, 70, 71, 72] (by decide +kernel) (by decide +kernel)
set_option maxRecDepth 20000 in
theorem gX2_init_X2_init_ : GoodIn wsX2_init (wsV RX2 20 RX2 yX2_init_ wsX2_init_) := goodIn_app (goodIn_of _ (by decide +kernel)) ggX2_init_X2_init_
theorem dX2_init_0 : decode cX2_init 0 = .ok (.aload_n 0, 1) := by decide +kernel
theorem dX2_init_1 : decode cX2_init 1 = .ok (.invokespecial 3, 3) := by decide +kernel
theorem dX2_init_4 : decode cX2_init 4 = .ok (.aload_n 0, 1) := by decide +kernel
theorem dX2_init_5 : decode cX2_init 5 = .ok (.new 9, 3) := by decide +kernel
theorem dX2_init_8 : decode cX2_init 8 = .ok (.dup, 1) := by decide +kernel
theorem dX2_init_9 : decode cX2_init 9 = .ok (.invokespecial 11, 3) := by decide +kernel
theorem dX2_init_12 : decode cX2_init 12 = .ok (.putfield 12, 3) := by decide +kernel
theorem dX2_init_15 : decode cX2_init 15 = .ok (.aload_n 0, 1) := by decide +kernel
theorem dX2_init_16 : decode cX2_init 16 = .ok (.bipush 16, 2) := by decide +kernel
theorem dX2_init_18 : decode cX2_init 18 = .ok (.newarray .int, 2) := by decide +kernel
theorem dX2_init_20 : decode cX2_init 20 = .ok (.putfield 16, 3) := by decide +kernel
theorem dX2_init_23 : decode cX2_init 23 = .ok (.aload_n 0, 1) := by decide +kernel
theorem dX2_init_24 : decode cX2_init 24 = .ok (.invokevirtual 20, 3) := by decide +kernel
theorem dX2_init_27 : decode cX2_init 27 = .ok (.return_, 1) := by decide +kernel
set_option maxRecDepth 20000 in
theorem ggX2_init__X1_clear : GoodIn wsX2_init_ wsX1_clear := goodIn_r _ [9, 10, 11, 12, 13, 14, 15, 48, 49, 50, 51, 52, 53] (by decide +kernel) (by decide +kernel)
set_option maxRecDepth 20000 in
theorem gX2_init__X1_clear_n34 : GoodIn wsX2_init_ (wsX1_clear) := ggX2_init__X1_clear
set_option maxRecDepth 20000 in
theorem ggX2_init__X0_wordAt : GoodIn wsX2_init_ wsX0_wordAt := goodIn_r _ [19, 20, 21, 22, 23, 24, 17, 25, 26, 27, 28, 29, 30, 7, 31, 32, 11, 12, 13, 14, 10, 33, 34, 35, 46, 47, 48, 49, 50, 51, 52, 53] (by decide +kernel) (by decide +kernel)
set_option maxRecDepth 20000 in
theorem gX2_init__X0_wordAt_n40 : GoodIn wsX2_init_ (wsX0_wordAt) := ggX2_init__X0_wordAt
set_option maxRecDepth 20000 in
theorem ggX2_init__X2_setRegister : GoodIn wsX2_init_ wsX2_setRegister := goodIn_r _ [40, 1, 5, 41, 42, 43, 44, 45] (by decide +kernel) (by decide +kernel)
set_option maxRecDepth 20000 in
theorem gX2_init__X2_setRegister : GoodIn wsX2_init_ (wsV RX2 44 RX2 yX2_setRegister wsX2_setRegister) := goodIn_app (goodIn_of _ (by decide +kernel)) ggX2_init__X2_setRegister
theorem dX2_init__0 : decode cX2_init_ 0 = .ok (.iconst 0, 1) := by decide +kernel
theorem dX2_init__1 : decode cX2_init_ 1 = .ok (.istore_n 1, 1) := by decide +kernel
theorem dX2_init__2 : decode cX2_init_ 2 = .ok (.iload_n 1, 1) := by decide +kernel
theorem dX2_init__3 : decode cX2_init_ 3 = .ok (.bipush 16, 2) := by decide +kernel
theorem dX2_init__5 : decode cX2_init_ 5 = .ok (.if_icmp .ge 16, 3) := by decide +kernel
theorem dX2_init__8 : decode cX2_init_ 8 = .ok (.aload_n 0, 1) := by decide +kernel
theorem dX2_init__9 : decode cX2_init_ 9 = .ok (.getfield 16, 3) := by decide +kernel
theorem dX2_init__12 : decode cX2_init_ 12 = .ok (.iload_n 1, 1) := by decide +kernel
theorem dX2_init__13 : decode cX2_init_ 13 = .ok (.iconst 0, 1) := by decide +kernel
theorem dX2_init__14 : decode cX2_init_ 14 = .ok (.iastore, 1) := by decide +kernel
theorem dX2_init__15 : decode cX2_init_ 15 = .ok (.iinc 1 1, 3) := by decide +kernel
theorem dX2_init__18 : decode cX2_init_ 18 = .ok (.goto (-16), 3) := by decide +kernel
theorem dX2_init__21 : decode cX2_init_ 21 = .ok (.aload_n 0, 1) := by decide +kernel
theorem dX2_init__22 : decode cX2_init_ 22 = .ok (.iconst 0, 1) := by decide +kernel
theorem dX2_init__23 : decode cX2_init_ 23 = .ok (.putfield 23, 3) := by decide +kernel
theorem dX2_init__26 : decode cX2_init_ 26 = .ok (.aload_n 0, 1) := by decide +kernel
theorem dX2_init__27 : decode cX2_init_ 27 = .ok (.iconst 0, 1) := by decide +kernel
theorem dX2_init__28 : decode cX2_init_ 28 = .ok (.putfield 27, 3) := by decide +kernel
theorem dX2_init__31 : decode cX2_init_ 31 = .ok (.aload_n 0, 1) := by decide +kernel
theorem dX2_init__32 : decode cX2_init_ 32 = .ok (.getfield 12, 3) := by decide +kernel
theorem dX2_init__35 : decode cX2_init_ 35 = .ok (.getfield 30, 3) := by decide +kernel
theorem dX2_init__38 : decode cX2_init_ 38 = .ok (.invokevirtual 34, 3) := by decide +kernel
theorem dX2_init__41 : decode cX2_init_ 41 = .ok (.aload_n 0, 1) := by decide +kernel
theorem dX2_init__42 : decode cX2_init_ 42 = .ok (.iconst 0, 1) := by decide +kernel
theorem dX2_init__43 : decode cX2_init_ 43 = .ok (.aload_n 0, 1) := by decide +kernel
theorem dX2_init__44 : decode cX2_init_ 44 = .ok (.getfield 12, 3) := by decide +kernel
theorem dX2_init__47 : decode cX2_init_ 47 = .ok (.ldc 39, 2) := by decide +kernel
theorem dX2_init__49 : decode cX2_init_ 49 = .ok (.invokevirtual 40, 3) := by decide +kernel
theorem dX2_init__52 : decode cX2_init_ 52 = .ok (.invokevirtual 44, 3) := by decide +kernel
theorem dX2_init__55 : decode cX2_init_ 55 = .ok (.return_, 1) := by decide +kernel
set_option maxRecDepth 20000 in
theorem ggX2_poke_X0_placeByte : GoodIn wsX2_poke wsX0_placeByte := goodIn_r _ [6, 7, 8, 9, 10, 11, 4, 12, 13, 14, 15, 16, 17, 18, 19, 20, 21, 22, 23, 24, 25, 26, 27, 28, 29, 30, 31, 32, 33, 34, 35, 36, 37, 38, 39, 40, 41, 42, 47, 48, 49, 50, 51, 52, 53, 54] (by decide +kernel) (by decide +kernel)
set_option maxRecDepth 20000 in
theorem gX2_poke_X0_placeByte_n49 : GoodIn wsX2_poke (wsX0_placeByte) := ggX2_poke_X0_placeByte
theorem dX2_poke_0 : decode cX2_poke 0 = .ok (.iload_n 1, 1) := by decide +kernel
theorem dX2_poke_1 : decode cX2_poke 1 = .ok (.ifCond .lt 20, 3) := by decide +kernel
theorem dX2_poke_4 : decode cX2_poke 4 = .ok (.iload_n 1, 1) := by decide +kernel
theorem dX2_poke_5 : decode cX2_poke 5 = .ok (.ldc 48, 2) := by decide +kernel
theorem dX2_poke_7 : decode cX2_poke 7 = .ok (.if_icmp .ge 14, 3) := by decide +kernel
theorem dX2_poke_10 : decode cX2_poke 10 = .ok (.iload_n 2, 1) := by decide +kernel
theorem dX2_poke_11 : decode cX2_poke 11 = .ok (.ifCond .lt 10, 3) := by decide +kernel
theorem dX2_poke_14 : decode cX2_poke 14 = .ok (.iload_n 2, 1) := by decide +kernel
theorem dX2_poke_15 : decode cX2_poke 15 = .ok (.sipush 255, 3) := by decide +kernel
theorem dX2_poke_18 : decode cX2_poke 18 = .ok (.if_icmp .le 5, 3) := by decide +kernel
theorem dX2_poke_21 : decode cX2_poke 21 = .ok (.iconst 0, 1) := by decide +kernel
theorem dX2_poke_22 : decode cX2_poke 22 = .ok (.ireturn, 1) := by decide +kernel
theorem dX2_poke_23 : decode cX2_poke 23 = .ok (.aload_n 0, 1) := by decide +kernel
theorem dX2_poke_24 : decode cX2_poke 24 = .ok (.getfield 12, 3) := by decide +kernel
theorem dX2_poke_27 : decode cX2_poke 27 = .ok (.iload_n 1, 1) := by decide +kernel
theorem dX2_poke_28 : decode cX2_poke 28 = .ok (.iload_n 2, 1) := by decide +kernel
theorem dX2_poke_29 : decode cX2_poke 29 = .ok (.invokevirtual 49, 3) := by decide +kernel
theorem dX2_poke_32 : decode cX2_poke 32 = .ok (.iconst 1, 1) := by decide +kernel
theorem dX2_poke_33 : decode cX2_poke 33 = .ok (.ireturn, 1) := by decide +kernel
set_option maxRecDepth 20000 in
theorem ggX2_peek_X0_byteAt : GoodIn wsX2_peek wsX0_byteAt := goodIn_r _ [6, 7, 8, 9, 4, 10, 11, 12, 13, 14, 15, 16, 17, 18, 19, 20, 21, 22, 23, 24, 25, 26, 27, 28, 29, 30, 31, 32, 37, 38, 39, 40, 41, 42, 43, 44] (by decide +kernel) (by decide +kernel)
set_option maxRecDepth 20000 in
theorem gX2_peek_X0_byteAt_n52 : GoodIn wsX2_peek (wsX0_byteAt) := ggX2_peek_X0_byteAt
theorem dX2_peek_0 : decode cX2_peek 0 = .ok (.iload_n 1, 1) := by decide +kernel
theorem dX2_peek_1 : decode cX2_peek 1 = .ok (.ifCond .lt 9, 3) := by decide +kernel
theorem dX2_peek_4 : decode cX2_peek 4 = .ok (.iload_n 1, 1) := by decide +kernel
theorem dX2_peek_5 : decode cX2_peek 5 = .ok (.ldc 48, 2) := by decide +kernel
theorem dX2_peek_7 : decode cX2_peek 7 = .ok (.if_icmp .lt 5, 3) := by decide +kernel
theorem dX2_peek_10 : decode cX2_peek 10 = .ok (.iconst (-1), 1) := by decide +kernel
theorem dX2_peek_11 : decode cX2_peek 11 = .ok (.ireturn, 1) := by decide +kernel
theorem dX2_peek_12 : decode cX2_peek 12 = .ok (.aload_n 0, 1) := by decide +kernel
theorem dX2_peek_13 : decode cX2_peek 13 = .ok (.getfield 12, 3) := by decide +kernel
theorem dX2_peek_16 : decode cX2_peek 16 = .ok (.iload_n 1, 1) := by decide +kernel
theorem dX2_peek_17 : decode cX2_peek 17 = .ok (.invokevirtual 52, 3) := by decide +kernel
theorem dX2_peek_20 : decode cX2_peek 20 = .ok (.ireturn, 1) := by decide +kernel
set_option maxRecDepth 20000 in
theorem ggX2_step_X2_interrupt : GoodIn wsX2_step wsX2_interrupt := goodIn_r _ [8, 1, 2, 3, 9, 10, 11, 12, 7, 13, 14, 15, 16, 17, 18, 19, 20, 21, 22, 23, 24, 25, 26, 27, 28, 29, 30, 31, 32, 33, 34, 35, 36, 37, 38, 39, 40, 41, 42, 43, 44, 45, 46, 47, 48, 49, 50, 51, 52, 53, 54, 55, 56, 57, 58, 59, 60, 61, 62, 63, 64, 65, 66, 67, 68, 69, 70, 71, 72, 73, 74, 75, 76, 77, 78, 79, 80, 81, 82, 83, 84, 85, 86, 87, 88, 89, 90, 91, 92, 197, 198, 199, 200, 201, 202, 203, 204, 205, 206, 207, 208] (by decide +kernel) (by decide +kernel)
set_option maxRecDepth 20000 in
theorem gX2_step_X2_interrupt : GoodIn wsX2_step (wsV RX2 55 RX2 yX2_interrupt wsX2_interrupt) := goodIn_app (goodIn_of _ (by decide +kernel)) ggX2_step_X2_interrupt
set_option maxRecDepth 20000 in
theorem ggX2_step_X0_wordAt : GoodIn wsX2_step wsX0_wordAt := goodIn_r _ [45, 32, 46, 47, 33, 34, 29, 35, 36, 48, 49, 50, 51, 52, 53, 54, 55, 56, 57, 58, 59, 60, 61, 62, 201, 202, 203, 204, 205, 206, 207, 208] (by decide +kernel) (by decide +kernel)
set_option maxRecDepth 20000 in
theorem gX2_step_X0_wordAt_n40 : GoodIn wsX2_step (wsX0_wordAt) := ggX2_step_X0_wordAt
set_option maxRecDepth 20000 in
theorem ggX2_step_X2_isUnassigned : GoodIn wsX2_step wsX2_isUnassigned := goodIn_r _ [95] (by decide +kernel) (by decide +kernel)
set_option maxRecDepth 20000 in
theorem gX2_step_X2_isUnassigned : GoodIn wsX2_step (va_wsS RX2 58 yX2_isUnassigned wsX2_isUnassigned) := goodIn_app (goodIn_of _ (by decide +kernel)) ggX2_step_X2_isUnassigned
set_option maxRecDepth 20000 in
theorem ggX2_step_X2_addToRegister : GoodIn wsX2_step wsX2_addToRegister := goodIn_r _ [21, 1, 22, 23, 24, 7, 25, 26, 27, 197, 198, 199, 200] (by decide +kernel) (by decide +kernel)
set_option maxRecDepth 20000 in
theorem gX2_step_X2_addToRegister : GoodIn wsX2_step (wsV RX2 62 RX2 yX2_addToRegister wsX2_addToRegister) := goodIn_app (goodIn_of _ (by decide +kernel)) ggX2_step_X2_addToRegister
set_option maxRecDepth 20000 in
theorem ggX2_step_X2_doTwoParts : GoodIn wsX2_step wsX2_doTwoParts := goodIn_r _ [99, 100, 101, 102, 7, 103, 104, 27, 105, 1, 106, 107, 108, 109, 3, 43, 29, 44, 45, 32, 46, 47, 33, 34, 35, 36, 48, 49, 50, 51, 52, 53, 54, 55, 56, 57, 58, 59, 60, 61, 62, 18, 19, 20, 21, 22, 23, 24, 25, 26, 110, 111, 112, 113, 114, 115, 116, 42, 117, 118, 119, 120, 121, 122, 123, 124, 125, 126, 127, 128, 129, 130, 131, 132, 133, 134, 135, 136, 137, 138, 139, 140, 141, 142, 143, 144, 145, 146, 147, 28, 30, 31, 37, 38, 39, 40, 41, 63, 64, 65, 66, 67, 68, 69, 70, 71, 72, 73, 74, 75, 76, 77, 78, 79, 80, 81, 82, 83, 84, 85, 86, 148, 149, 150, 151, 152, 153, 154, 155, 156, 157, 158, 159, 160, 161, 87, 88, 89, 90, 91, 92, 197, 198, 199, 200, 201, 202, 203, 204, 205, 206, 207, 208] (by decide +kernel) (by decide +kernel)
set_option maxRecDepth 20000 in
theorem gX2_step_X2_doTwoParts : GoodIn wsX2_step (wsV RX2 65 RX2 yX2_doTwoParts wsX2_doTwoParts) := goodIn_app (goodIn_of _ (by decide +kernel)) ggX2_step_X2_doTwoParts
set_option maxRecDepth 20000 in
theorem ggX2_step_X2_doJump : GoodIn wsX2_step wsX2_doJump := goodIn_r _ [165, 166, 167, 168, 7, 169, 170, 171, 172, 173, 1, 18, 19, 20, 21, 22, 23, 24, 25, 26, 27, 87, 88, 89, 90, 91, 92, 197, 198, 199, 200] (by decide +kernel) (by decide +kernel)
set_option maxRecDepth 20000 in
theorem gX2_step_X2_doJump : GoodIn wsX2_step (wsV RX2 69 RX2 yX2_doJump wsX2_doJump) := goodIn_app (goodIn_of _ (by decide +kernel)) ggX2_step_X2_doJump
set_option maxRecDepth 20000 in
theorem ggX2_step_X2_returnFromInterrupt : GoodIn wsX2_step wsX2_returnFromInterrupt := goodIn_r _ [177, 178, 179, 180, 7, 181, 3, 1, 43, 29, 44, 45, 32, 46, 47, 33, 34, 35, 36, 48, 49, 50, 51, 52, 53, 54, 55, 56, 57, 58, 59, 60, 61, 62, 18, 19, 20, 21, 22, 23, 24, 25, 26, 27, 87, 88, 89, 90, 91, 92, 197, 198, 199, 200, 201, 202, 203, 204, 205, 206, 207, 208] (by decide +kernel) (by decide +kernel)
set_option maxRecDepth 20000 in
theorem gX2_step_X2_returnFromInterrupt : GoodIn wsX2_step (wsV RX2 72 RX2 yX2_returnFromInterrupt wsX2_returnFromInterrupt) := goodIn_app (goodIn_of _ (by decide +kernel)) ggX2_step_X2_returnFromInterrupt
set_option maxRecDepth 20000 in
theorem ggX2_step_X2_doOnePart : GoodIn wsX2_step wsX2_doOnePart := goodIn_r _ [185, 186, 1, 187, 188, 100, 101, 102, 7, 103, 104, 27, 105, 106, 107, 108, 109, 3, 43, 29, 44, 45, 32, 46, 47, 33, 34, 35, 36, 48, 49, 50, 51, 52, 53, 54, 55, 56, 57, 58, 59, 60, 61, 62, 18, 19, 20, 21, 22, 23, 24, 25, 26, 110, 111, 112, 113, 114, 115, 116, 42, 154, 155, 156, 157, 14, 15, 16, 17, 28, 30, 31, 37, 38, 39, 40, 41, 63, 64, 65, 66, 67, 68, 69, 70, 71, 72, 73, 74, 75, 76, 77, 78, 79, 80, 81, 82, 83, 84, 85, 86, 87, 88, 89, 90, 91, 92, 158, 159, 160, 161, 189, 190, 191, 192, 170, 171, 172, 173, 193, 194, 195, 196, 132, 133, 134, 135, 129, 130, 131, 140, 141, 142, 143, 144, 145, 146, 147, 197, 198, 199, 200, 201, 202, 203, 204, 205, 206, 207, 208] (by decide +kernel) (by decide +kernel)
set_option maxRecDepth 20000 in
theorem gX2_step_X2_doOnePart : GoodIn wsX2_step (wsV RX2 75 RX2 yX2_doOnePart wsX2_doOnePart) := goodIn_app (goodIn_of _ (by decide +kernel)) ggX2_step_X2_doOnePart
theorem dX2_step_0 : decode cX2_step 0 = .ok (.aload_n 0, 1) := by decide +kernel
theorem dX2_step_1 : decode cX2_step 1 = .ok (.getfield 16, 3) := by decide +kernel
theorem dX2_step_4 : decode cX2_step 4 = .ok (.iconst 2, 1) := by decide +kernel
theorem dX2_step_5 : decode cX2_step 5 = .ok (.iaload, 1) := by decide +kernel
theorem dX2_step_6 : decode cX2_step 6 = .ok (.istore_n 1, 1) := by decide +kernel
theorem dX2_step_7 : decode cX2_step 7 = .ok (.iload_n 1, 1) := by decide +kernel
theorem dX2_step_8 : decode cX2_step 8 = .ok (.bipush 8, 2) := by decide +kernel
theorem dX2_step_10 : decode cX2_step 10 = .ok (.iand, 1) := by decide +kernel
theorem dX2_step_11 : decode cX2_step 11 = .ok (.ifCond .eq 16, 3) := by decide +kernel
theorem dX2_step_14 : decode cX2_step 14 = .ok (.aload_n 0, 1) := by decide +kernel
theorem dX2_step_15 : decode cX2_step 15 = .ok (.getfield 23, 3) := by decide +kernel
theorem dX2_step_18 : decode cX2_step 18 = .ok (.ifCond .eq 9, 3) := by decide +kernel
theorem dX2_step_21 : decode cX2_step 21 = .ok (.aload_n 0, 1) := by decide +kernel
theorem dX2_step_22 : decode cX2_step 22 = .ok (.invokevirtual 55, 3) := by decide +kernel
theorem dX2_step_25 : decode cX2_step 25 = .ok (.iconst 0, 1) := by decide +kernel
theorem dX2_step_26 : decode cX2_step 26 = .ok (.ireturn, 1) := by decide +kernel
theorem dX2_step_27 : decode cX2_step 27 = .ok (.iload_n 1, 1) := by decide +kernel
theorem dX2_step_28 : decode cX2_step 28 = .ok (.bipush 16, 2) := by decide +kernel
theorem dX2_step_30 : decode cX2_step 30 = .ok (.iand, 1) := by decide +kernel
theorem dX2_step_31 : decode cX2_step 31 = .ok (.ifCond .eq 5, 3) := by decide +kernel
theorem dX2_step_34 : decode cX2_step 34 = .ok (.iconst 1, 1) := by decide +kernel
theorem dX2_step_35 : decode cX2_step 35 = .ok (.ireturn, 1) := by decide +kernel
theorem dX2_step_36 : decode cX2_step 36 = .ok (.aload_n 0, 1) := by decide +kernel
theorem dX2_step_37 : decode cX2_step 37 = .ok (.getfield 12, 3) := by decide +kernel
theorem dX2_step_40 : decode cX2_step 40 = .ok (.aload_n 0, 1) := by decide +kernel
theorem dX2_step_41 : decode cX2_step 41 = .ok (.getfield 16, 3) := by decide +kernel
theorem dX2_step_44 : decode cX2_step 44 = .ok (.iconst 0, 1) := by decide +kernel
theorem dX2_step_45 : decode cX2_step 45 = .ok (.iaload, 1) := by decide +kernel
theorem dX2_step_46 : decode cX2_step 46 = .ok (.invokevirtual 40, 3) := by decide +kernel
theorem dX2_step_49 : decode cX2_step 49 = .ok (.istore_n 2, 1) := by decide +kernel
theorem dX2_step_50 : decode cX2_step 50 = .ok (.iload_n 2, 1) := by decide +kernel
theorem dX2_step_51 : decode cX2_step 51 = .ok (.invokestatic 58, 3) := by decide +kernel
theorem dX2_step_54 : decode cX2_step 54 = .ok (.ifCond .eq 5, 3) := by decide +kernel
theorem dX2_step_57 : decode cX2_step 57 = .ok (.iconst 2, 1) := by decide +kernel
theorem dX2_step_58 : decode cX2_step 58 = .ok (.ireturn, 1) := by decide +kernel
theorem dX2_step_59 : decode cX2_step 59 = .ok (.aload_n 0, 1) := by decide +kernel
theorem dX2_step_60 : decode cX2_step 60 = .ok (.iconst 0, 1) := by decide +kernel
theorem dX2_step_61 : decode cX2_step 61 = .ok (.iconst 2, 1) := by decide +kernel
theorem dX2_step_62 : decode cX2_step 62 = .ok (.invokevirtual 62, 3) := by decide +kernel
theorem dX2_step_65 : decode cX2_step 65 = .ok (.iload_n 2, 1) := by decide +kernel
theorem dX2_step_66 : decode cX2_step 66 = .ok (.sipush 16384, 3) := by decide +kernel
theorem dX2_step_69 : decode cX2_step 69 = .ok (.if_icmp .lt 11, 3) := by decide +kernel
theorem dX2_step_72 : decode cX2_step 72 = .ok (.aload_n 0, 1) := by decide +kernel
theorem dX2_step_73 : decode cX2_step 73 = .ok (.iload_n 2, 1) := by decide +kernel
theorem dX2_step_74 : decode cX2_step 74 = .ok (.invokevirtual 65, 3) := by decide +kernel
theorem dX2_step_77 : decode cX2_step 77 = .ok (.goto 37, 3) := by decide +kernel
theorem dX2_step_80 : decode cX2_step 80 = .ok (.iload_n 2, 1) := by decide +kernel
theorem dX2_step_81 : decode cX2_step 81 = .ok (.sipush 8192, 3) := by decide +kernel
theorem dX2_step_84 : decode cX2_step 84 = .ok (.if_icmp .lt 11, 3) := by decide +kernel
theorem dX2_step_87 : decode cX2_step 87 = .ok (.aload_n 0, 1) := by decide +kernel
theorem dX2_step_88 : decode cX2_step 88 = .ok (.iload_n 2, 1) := by decide +kernel
theorem dX2_step_89 : decode cX2_step 89 = .ok (.invokevirtual 69, 3) := by decide +kernel
theorem dX2_step_92 : decode cX2_step 92 = .ok (.goto 22, 3) := by decide +kernel
theorem dX2_step_95 : decode cX2_step 95 = .ok (.iload_n 2, 1) := by decide +kernel
theorem dX2_step_96 : decode cX2_step 96 = .ok (.sipush 4864, 3) := by decide +kernel
theorem dX2_step_99 : decode cX2_step 99 = .ok (.if_icmp .ne 10, 3) := by decide +kernel
theorem dX2_step_102 : decode cX2_step 102 = .ok (.aload_n 0, 1) := by decide +kernel
theorem dX2_step_103 : decode cX2_step 103 = .ok (.invokevirtual 72, 3) := by decide +kernel
theorem dX2_step_106 : decode cX2_step 106 = .ok (.goto 8, 3) := by decide +kernel
theorem dX2_step_109 : decode cX2_step 109 = .ok (.aload_n 0, 1) := by decide +kernel
theorem dX2_step_110 : decode cX2_step 110 = .ok (.iload_n 2, 1) := by decide +kernel
theorem dX2_step_111 : decode cX2_step 111 = .ok (.invokevirtual 75, 3) := by decide +kernel
theorem dX2_step_114 : decode cX2_step 114 = .ok (.iconst 0, 1) := by decide +kernel
theorem dX2_step_115 : decode cX2_step 115 = .ok (.ireturn, 1) := by decide +kernel
set_option maxRecDepth 20000 in
theorem ggX2_run_X2_step : GoodIn wsX2_run wsX2_step := goodIn_r _ [5, 6, 7, 8, 9, 10, 11, 4, 12, 13, 14, 15, 16, 17, 18, 19, 20, 21, 22, 23, 24, 25, 26, 27, 28, 29, 30, 31, 32, 33, 34, 35, 36, 37, 38, 39, 40, 41, 42, 43, 44, 45, 46, 47, 48, 49, 50, 51, 52, 53, 54, 55, 56, 57, 58, 59, 60, 61, 62, 63, 64, 65, 66, 67, 68, 69, 70, 71, 72, 73, 74, 75, 76, 77, 78, 79, 80, 81, 82, 83, 84, 85, 86, 87, 88, 89, 90, 91, 92, 93, 94, 95, 96, 97, 98, 99, 100, 101, 102, 103, 104, 105, 106, 107, 108, 109, 110, 111, 112, 113, 114, 115, 116, 117, 118, 119, 120, 121, 122, 123, 124, 125, 126, 127, 128, 129, 130, 131, 132, 133, 134, 135, 136, 137, 138, 139, 140, 141, 142, 143, 144, 145, 146, 147, 148, 149, 150, 151, 152, 153, 154, 155, 156, 157, 158, 159, 160, 161, 162, 163, 164, 165, 166, 167, 168, 169, 170, 171, 172, 173, 174, 175, 176, 177, 178, 179, 180, 181, 182, 183, 184, 185, 186, 187, 188, 189, 190, 191, 192, 193, 194, 195, 196, 197, 198, 199, 200, 201, 202, 203, 204, 205, 206, 207, 208, 209, 210, 211, 212] (by decide +kernel) (by decide +kernel)
set_option maxRecDepth 20000 in
theorem gX2_run_X2_step : GoodIn wsX2_run (wsV RX2 78 RX2 yX2_step wsX2_step) := goodIn_app (goodIn_of _ (by decide +kernel)) ggX2_run_X2_step
theorem dX2_run_0 : decode cX2_run 0 = .ok (.iload_n 1, 1) := by decide +kernel
theorem dX2_run_1 : decode cX2_run 1 = .ok (.ifCond .lt 10, 3) := by decide +kernel
theorem dX2_run_4 : decode cX2_run 4 = .ok (.iload_n 1, 1) := by decide +kernel
theorem dX2_run_5 : decode cX2_run 5 = .ok (.sipush 2000, 3) := by decide +kernel
theorem dX2_run_8 : decode cX2_run 8 = .ok (.if_icmp .le 5, 3) := by decide +kernel
theorem dX2_run_11 : decode cX2_run 11 = .ok (.iconst (-1), 1) := by decide +kernel
theorem dX2_run_12 : decode cX2_run 12 = .ok (.ireturn, 1) := by decide +kernel
theorem dX2_run_13 : decode cX2_run 13 = .ok (.iconst 0, 1) := by decide +kernel
theorem dX2_run_14 : decode cX2_run 14 = .ok (.istore_n 2, 1) := by decide +kernel
theorem dX2_run_15 : decode cX2_run 15 = .ok (.iconst 0, 1) := by decide +kernel
theorem dX2_run_16 : decode cX2_run 16 = .ok (.istore_n 3, 1) := by decide +kernel
theorem dX2_run_17 : decode cX2_run 17 = .ok (.iload_n 3, 1) := by decide +kernel
theorem dX2_run_18 : decode cX2_run 18 = .ok (.iload_n 1, 1) := by decide +kernel
theorem dX2_run_19 : decode cX2_run 19 = .ok (.if_icmp .ge 18, 3) := by decide +kernel
theorem dX2_run_22 : decode cX2_run 22 = .ok (.iload_n 2, 1) := by decide +kernel
theorem dX2_run_23 : decode cX2_run 23 = .ok (.ifCond .ne 14, 3) := by decide +kernel
theorem dX2_run_26 : decode cX2_run 26 = .ok (.aload_n 0, 1) := by decide +kernel
theorem dX2_run_27 : decode cX2_run 27 = .ok (.invokevirtual 78, 3) := by decide +kernel
theorem dX2_run_30 : decode cX2_run 30 = .ok (.istore_n 2, 1) := by decide +kernel
theorem dX2_run_31 : decode cX2_run 31 = .ok (.iinc 3 1, 3) := by decide +kernel
theorem dX2_run_34 : decode cX2_run 34 = .ok (.goto (-17), 3) := by decide +kernel
theorem dX2_run_37 : decode cX2_run 37 = .ok (.iload_n 2, 1) := by decide +kernel
theorem dX2_run_38 : decode cX2_run 38 = .ok (.ireturn, 1) := by decide +kernel
theorem dX2_reg_0 : decode cX2_reg 0 = .ok (.iload_n 1, 1) := by decide +kernel
theorem dX2_reg_1 : decode cX2_reg 1 = .ok (.ifCond .lt 9, 3) := by decide +kernel
theorem dX2_reg_4 : decode cX2_reg 4 = .ok (.iload_n 1, 1) := by decide +kernel
theorem dX2_reg_5 : decode cX2_reg 5 = .ok (.bipush 16, 2) := by decide +kernel
theorem dX2_reg_7 : decode cX2_reg 7 = .ok (.if_icmp .lt 5, 3) := by decide +kernel
theorem dX2_reg_10 : decode cX2_reg 10 = .ok (.iconst (-1), 1) := by decide +kernel
theorem dX2_reg_11 : decode cX2_reg 11 = .ok (.ireturn, 1) := by decide +kernel
theorem dX2_reg_12 : decode cX2_reg 12 = .ok (.aload_n 0, 1) := by decide +kernel
theorem dX2_reg_13 : decode cX2_reg 13 = .ok (.getfield 16, 3) := by decide +kernel
theorem dX2_reg_16 : decode cX2_reg 16 = .ok (.iload_n 1, 1) := by decide +kernel
theorem dX2_reg_17 : decode cX2_reg 17 = .ok (.iaload, 1) := by decide +kernel
theorem dX2_reg_18 : decode cX2_reg 18 = .ok (.ireturn, 1) := by decide +kernel
theorem dX2_raise_0 : decode cX2_raise 0 = .ok (.iload_n 1, 1) := by decide +kernel
theorem dX2_raise_1 : decode cX2_raise 1 = .ok (.ifCond .lt 9, 3) := by decide +kernel
theorem dX2_raise_4 : decode cX2_raise 4 = .ok (.iload_n 1, 1) := by decide +kernel
theorem dX2_raise_5 : decode cX2_raise 5 = .ok (.bipush 14, 2) := by decide +kernel
theorem dX2_raise_7 : decode cX2_raise 7 = .ok (.if_icmp .lt 5, 3) := by decide +kernel
theorem dX2_raise_10 : decode cX2_raise 10 = .ok (.iconst 0, 1) := by decide +kernel
theorem dX2_raise_11 : decode cX2_raise 11 = .ok (.ireturn, 1) := by decide +kernel
theorem dX2_raise_12 : decode cX2_raise 12 = .ok (.aload_n 0, 1) := by decide +kernel
theorem dX2_raise_13 : decode cX2_raise 13 = .ok (.dup, 1) := by decide +kernel
theorem dX2_raise_14 : decode cX2_raise 14 = .ok (.getfield 23, 3) := by decide +kernel
theorem dX2_raise_17 : decode cX2_raise 17 = .ok (.iconst 1, 1) := by decide +kernel
theorem dX2_raise_18 : decode cX2_raise 18 = .ok (.iload_n 1, 1) := by decide +kernel
theorem dX2_raise_19 : decode cX2_raise 19 = .ok (.ishl, 1) := by decide +kernel
theorem dX2_raise_20 : decode cX2_raise 20 = .ok (.ior, 1) := by decide +kernel
theorem dX2_raise_21 : decode cX2_raise 21 = .ok (.putfield 23, 3) := by decide +kernel
theorem dX2_raise_24 : decode cX2_raise 24 = .ok (.iconst 1, 1) := by decide +kernel
theorem dX2_raise_25 : decode cX2_raise 25 = .ok (.ireturn, 1) := by decide +kernel
theorem dX2_cyclesOf_0 : decode cX2_cyclesOf 0 = .ok (.aload_n 0, 1) := by decide +kernel
theorem dX2_cyclesOf_1 : decode cX2_cyclesOf 1 = .ok (.getfield 27, 3) := by decide +kernel
theorem dX2_cyclesOf_4 : decode cX2_cyclesOf 4 = .ok (.ireturn, 1) := by decide +kernel
theorem dX2_pending_0 : decode cX2_pending 0 = .ok (.aload_n 0, 1) := by decide +kernel
theorem dX2_pending_1 : decode cX2_pending 1 = .ok (.getfield 23, 3) := by decide +kernel
theorem dX2_pending_4 : decode cX2_pending 4 = .ok (.ireturn, 1) := by decide +kernel
theorem dX2_mode_0 : decode cX2_mode 0 = .ok (.aload_n 0, 1) := by decide +kernel
theorem dX2_mode_1 : decode cX2_mode 1 = .ok (.getfield 12, 3) := by decide +kernel
theorem dX2_mode_4 : decode cX2_mode 4 = .ok (.getfield 30, 3) := by decide +kernel
theorem dX2_mode_7 : decode cX2_mode 7 = .ok (.getfield 82, 3) := by decide +kernel
theorem dX2_mode_10 : decode cX2_mode 10 = .ok (.ireturn, 1) := by decide +kernel
set_option maxRecDepth 20000 in
theorem ggX2_interrupt_X2_highestPendingLine : GoodIn wsX2_interrupt wsX2_highestPendingLine := goodIn_r _ [9, 2, 89, 90, 91, 92] (by decide +kernel) (by decide +kernel)
set_option maxRecDepth 20000 in
theorem gX2_interrupt_X2_highestPendingLine : GoodIn wsX2_interrupt (wsV RX2 85 RX2 yX2_highestPendingLine wsX2_highestPendingLine) := goodIn_app (goodIn_of _ (by decide +kernel)) ggX2_interrupt_X2_highestPendingLine
set_option maxRecDepth 20000 in
theorem ggX2_interrupt_X2_push : GoodIn wsX2_interrupt wsX2_push := goodIn_r _ [13, 3, 1, 14, 15, 16, 8, 17, 18, 19, 20, 21, 22, 23, 24, 25, 26, 27, 28, 29, 30, 31, 32, 33, 34, 35, 36, 37, 38, 39, 40, 41, 42, 43, 44, 45, 46, 47, 48, 49, 50, 51, 52, 53, 54, 55, 56, 57, 58, 59, 60, 61, 62, 63, 64, 65, 66, 67, 68, 69, 70, 71, 72, 73, 74, 75, 76, 77, 78, 79, 80, 81, 82, 89, 90, 91, 92, 93, 94, 95, 96, 97, 98, 99, 100] (by decide +kernel) (by decide +kernel)
set_option maxRecDepth 20000 in
theorem gX2_interrupt_X2_push : GoodIn wsX2_interrupt (wsV RX2 88 RX2 yX2_push wsX2_push) := goodIn_app (goodIn_of _ (by decide +kernel)) ggX2_interrupt_X2_push
set_option maxRecDepth 20000 in
theorem ggX2_interrupt_X2_setRegister : GoodIn wsX2_interrupt wsX2_setRegister := goodIn_r _ [21, 1, 22, 23, 89, 90, 91, 92] (by decide +kernel) (by decide +kernel)
set_option maxRecDepth 20000 in
theorem gX2_interrupt_X2_setRegister : GoodIn wsX2_interrupt (wsV RX2 44 RX2 yX2_setRegister wsX2_setRegister) := goodIn_app (goodIn_of _ (by decide +kernel)) ggX2_interrupt_X2_setRegister
set_option maxRecDepth 20000 in
theorem ggX2_interrupt_X0_wordAt : GoodIn wsX2_interrupt wsX0_wordAt := goodIn_r _ [41, 28, 42, 43, 29, 30, 25, 31, 32, 44, 45, 46, 47, 48, 49, 50, 51, 52, 53, 54, 55, 56, 57, 58, 93, 94, 95, 96, 97, 98, 99, 100] (by decide +kernel) (by decide +kernel)
set_option maxRecDepth 20000 in
theorem gX2_interrupt_X0_wordAt_n40 : GoodIn wsX2_interrupt (wsX0_wordAt) := ggX2_interrupt_X0_wordAt
set_option maxRecDepth 20000 in
theorem ggX2_interrupt_X2_spend : GoodIn wsX2_interrupt wsX2_spend := goodIn_r _ [86, 87, 88, 89, 90, 91, 92] (by decide +kernel) (by decide +kernel)
set_option maxRecDepth 20000 in
theorem gX2_interrupt_X2_spend : GoodIn wsX2_interrupt (wsV RX2 93 RX2 yX2_spend wsX2_spend) := goodIn_app (goodIn_of _ (by decide +kernel)) ggX2_interrupt_X2_spend
theorem dX2_interrupt_0 : decode cX2_interrupt 0 = .ok (.aload_n 0, 1) := by decide +kernel
theorem dX2_interrupt_1 : decode cX2_interrupt 1 = .ok (.invokevirtual 85, 3) := by decide +kernel
theorem dX2_interrupt_4 : decode cX2_interrupt 4 = .ok (.istore_n 1, 1) := by decide +kernel
theorem dX2_interrupt_5 : decode cX2_interrupt 5 = .ok (.aload_n 0, 1) := by decide +kernel
theorem dX2_interrupt_6 : decode cX2_interrupt 6 = .ok (.aload_n 0, 1) := by decide +kernel
theorem dX2_interrupt_7 : decode cX2_interrupt 7 = .ok (.getfield 16, 3) := by decide +kernel
theorem dX2_interrupt_10 : decode cX2_interrupt 10 = .ok (.iconst 0, 1) := by decide +kernel
theorem dX2_interrupt_11 : decode cX2_interrupt 11 = .ok (.iaload, 1) := by decide +kernel
theorem dX2_interrupt_12 : decode cX2_interrupt 12 = .ok (.iconst 0, 1) := by decide +kernel
theorem dX2_interrupt_13 : decode cX2_interrupt 13 = .ok (.invokevirtual 88, 3) := by decide +kernel
theorem dX2_interrupt_16 : decode cX2_interrupt 16 = .ok (.aload_n 0, 1) := by decide +kernel
theorem dX2_interrupt_17 : decode cX2_interrupt 17 = .ok (.aload_n 0, 1) := by decide +kernel
theorem dX2_interrupt_18 : decode cX2_interrupt 18 = .ok (.getfield 16, 3) := by decide +kernel
theorem dX2_interrupt_21 : decode cX2_interrupt 21 = .ok (.iconst 2, 1) := by decide +kernel
theorem dX2_interrupt_22 : decode cX2_interrupt 22 = .ok (.iaload, 1) := by decide +kernel
theorem dX2_interrupt_23 : decode cX2_interrupt 23 = .ok (.iconst 0, 1) := by decide +kernel
theorem dX2_interrupt_24 : decode cX2_interrupt 24 = .ok (.invokevirtual 88, 3) := by decide +kernel
theorem dX2_interrupt_27 : decode cX2_interrupt 27 = .ok (.aload_n 0, 1) := by decide +kernel
theorem dX2_interrupt_28 : decode cX2_interrupt 28 = .ok (.dup, 1) := by decide +kernel
theorem dX2_interrupt_29 : decode cX2_interrupt 29 = .ok (.getfield 23, 3) := by decide +kernel
theorem dX2_interrupt_32 : decode cX2_interrupt 32 = .ok (.iconst 1, 1) := by decide +kernel
theorem dX2_interrupt_33 : decode cX2_interrupt 33 = .ok (.iload_n 1, 1) := by decide +kernel
theorem dX2_interrupt_34 : decode cX2_interrupt 34 = .ok (.ishl, 1) := by decide +kernel
theorem dX2_interrupt_35 : decode cX2_interrupt 35 = .ok (.iconst (-1), 1) := by decide +kernel
theorem dX2_interrupt_36 : decode cX2_interrupt 36 = .ok (.ixor, 1) := by decide +kernel
theorem dX2_interrupt_37 : decode cX2_interrupt 37 = .ok (.iand, 1) := by decide +kernel
theorem dX2_interrupt_38 : decode cX2_interrupt 38 = .ok (.putfield 23, 3) := by decide +kernel
theorem dX2_interrupt_41 : decode cX2_interrupt 41 = .ok (.aload_n 0, 1) := by decide +kernel
theorem dX2_interrupt_42 : decode cX2_interrupt 42 = .ok (.iconst 2, 1) := by decide +kernel
theorem dX2_interrupt_43 : decode cX2_interrupt 43 = .ok (.aload_n 0, 1) := by decide +kernel
theorem dX2_interrupt_44 : decode cX2_interrupt 44 = .ok (.getfield 16, 3) := by decide +kernel
theorem dX2_interrupt_47 : decode cX2_interrupt 47 = .ok (.iconst 2, 1) := by decide +kernel
theorem dX2_interrupt_48 : decode cX2_interrupt 48 = .ok (.iaload, 1) := by decide +kernel
theorem dX2_interrupt_49 : decode cX2_interrupt 49 = .ok (.bipush 64, 2) := by decide +kernel
theorem dX2_interrupt_51 : decode cX2_interrupt 51 = .ok (.iand, 1) := by decide +kernel
theorem dX2_interrupt_52 : decode cX2_interrupt 52 = .ok (.invokevirtual 44, 3) := by decide +kernel
theorem dX2_interrupt_55 : decode cX2_interrupt 55 = .ok (.aload_n 0, 1) := by decide +kernel
theorem dX2_interrupt_56 : decode cX2_interrupt 56 = .ok (.iconst 0, 1) := by decide +kernel
theorem dX2_interrupt_57 : decode cX2_interrupt 57 = .ok (.aload_n 0, 1) := by decide +kernel
theorem dX2_interrupt_58 : decode cX2_interrupt 58 = .ok (.getfield 12, 3) := by decide +kernel
theorem dX2_interrupt_61 : decode cX2_interrupt 61 = .ok (.ldc 92, 2) := by decide +kernel
theorem dX2_interrupt_63 : decode cX2_interrupt 63 = .ok (.iconst 2, 1) := by decide +kernel
theorem dX2_interrupt_64 : decode cX2_interrupt 64 = .ok (.iload_n 1, 1) := by decide +kernel
theorem dX2_interrupt_65 : decode cX2_interrupt 65 = .ok (.imul, 1) := by decide +kernel
theorem dX2_interrupt_66 : decode cX2_interrupt 66 = .ok (.iadd, 1) := by decide +kernel
theorem dX2_interrupt_67 : decode cX2_interrupt 67 = .ok (.invokevirtual 40, 3) := by decide +kernel
theorem dX2_interrupt_70 : decode cX2_interrupt 70 = .ok (.invokevirtual 44, 3) := by decide +kernel
theorem dX2_interrupt_73 : decode cX2_interrupt 73 = .ok (.aload_n 0, 1) := by decide +kernel
theorem dX2_interrupt_74 : decode cX2_interrupt 74 = .ok (.bipush 6, 2) := by decide +kernel
theorem dX2_interrupt_76 : decode cX2_interrupt 76 = .ok (.invokevirtual 93, 3) := by decide +kernel
theorem dX2_interrupt_79 : decode cX2_interrupt 79 = .ok (.return_, 1) := by decide +kernel
theorem dX2_highestPendingLine_0 : decode cX2_highestPendingLine 0 = .ok (.bipush 13, 2) := by decide +kernel
theorem dX2_highestPendingLine_2 : decode cX2_highestPendingLine 2 = .ok (.istore_n 1, 1) := by decide +kernel
theorem dX2_highestPendingLine_3 : decode cX2_highestPendingLine 3 = .ok (.iload_n 1, 1) := by decide +kernel
theorem dX2_highestPendingLine_4 : decode cX2_highestPendingLine 4 = .ok (.ifCond .le 20, 3) := by decide +kernel
theorem dX2_highestPendingLine_7 : decode cX2_highestPendingLine 7 = .ok (.aload_n 0, 1) := by decide +kernel
theorem dX2_highestPendingLine_8 : decode cX2_highestPendingLine 8 = .ok (.getfield 23, 3) := by decide +kernel
theorem dX2_highestPendingLine_11 : decode cX2_highestPendingLine 11 = .ok (.iconst 1, 1) := by decide +kernel
theorem dX2_highestPendingLine_12 : decode cX2_highestPendingLine 12 = .ok (.iload_n 1, 1) := by decide +kernel
theorem dX2_highestPendingLine_13 : decode cX2_highestPendingLine 13 = .ok (.ishl, 1) := by decide +kernel
theorem dX2_highestPendingLine_14 : decode cX2_highestPendingLine 14 = .ok (.iand, 1) := by decide +kernel
theorem dX2_highestPendingLine_15 : decode cX2_highestPendingLine 15 = .ok (.ifCond .ne 9, 3) := by decide +kernel
theorem dX2_highestPendingLine_18 : decode cX2_highestPendingLine 18 = .ok (.iinc 1 (-1), 3) := by decide +kernel
theorem dX2_highestPendingLine_21 : decode cX2_highestPendingLine 21 = .ok (.goto (-18), 3) := by decide +kernel
theorem dX2_highestPendingLine_24 : decode cX2_highestPendingLine 24 = .ok (.iload_n 1, 1) := by decide +kernel
theorem dX2_highestPendingLine_25 : decode cX2_highestPendingLine 25 = .ok (.ireturn, 1) := by decide +kernel
theorem dX2_isUnassigned_0 : decode cX2_isUnassigned 0 = .ok (.iload_n 0, 1) := by decide +kernel
theorem dX2_isUnassigned_1 : decode cX2_isUnassigned 1 = .ok (.sipush 8192, 3) := by decide +kernel
theorem dX2_isUnassigned_4 : decode cX2_isUnassigned 4 = .ok (.if_icmp .lt 5, 3) := by decide +kernel
theorem dX2_isUnassigned_7 : decode cX2_isUnassigned 7 = .ok (.iconst 0, 1) := by decide +kernel
theorem dX2_isUnassigned_8 : decode cX2_isUnassigned 8 = .ok (.ireturn, 1) := by decide +kernel
theorem dX2_isUnassigned_9 : decode cX2_isUnassigned 9 = .ok (.iload_n 0, 1) := by decide +kernel
theorem dX2_isUnassigned_10 : decode cX2_isUnassigned 10 = .ok (.sipush 4096, 3) := by decide +kernel
theorem dX2_isUnassigned_13 : decode cX2_isUnassigned 13 = .ok (.if_icmp .lt 10, 3) := by decide +kernel
theorem dX2_isUnassigned_16 : decode cX2_isUnassigned 16 = .ok (.iload_n 0, 1) := by decide +kernel
theorem dX2_isUnassigned_17 : decode cX2_isUnassigned 17 = .ok (.sipush 4864, 3) := by decide +kernel
theorem dX2_isUnassigned_20 : decode cX2_isUnassigned 20 = .ok (.if_icmp .le 5, 3) := by decide +kernel
theorem dX2_isUnassigned_23 : decode cX2_isUnassigned 23 = .ok (.iconst 1, 1) := by decide +kernel
theorem dX2_isUnassigned_24 : decode cX2_isUnassigned 24 = .ok (.ireturn, 1) := by decide +kernel
theorem dX2_isUnassigned_25 : decode cX2_isUnassigned 25 = .ok (.iload_n 0, 1) := by decide +kernel
theorem dX2_isUnassigned_26 : decode cX2_isUnassigned 26 = .ok (.bipush 7, 2) := by decide +kernel
theorem dX2_isUnassigned_28 : decode cX2_isUnassigned 28 = .ok (.ishr, 1) := by decide +kernel
theorem dX2_isUnassigned_29 : decode cX2_isUnassigned 29 = .ok (.bipush 7, 2) := by decide +kernel
theorem dX2_isUnassigned_31 : decode cX2_isUnassigned 31 = .ok (.iand, 1) := by decide +kernel
theorem dX2_isUnassigned_32 : decode cX2_isUnassigned 32 = .ok (.istore_n 1, 1) := by decide +kernel
theorem dX2_isUnassigned_33 : decode cX2_isUnassigned 33 = .ok (.iload_n 1, 1) := by decide +kernel
theorem dX2_isUnassigned_34 : decode cX2_isUnassigned 34 = .ok (.iconst 1, 1) := by decide +kernel
theorem dX2_isUnassigned_35 : decode cX2_isUnassigned 35 = .ok (.if_icmp .eq 13, 3) := by decide +kernel
theorem dX2_isUnassigned_38 : decode cX2_isUnassigned 38 = .ok (.iload_n 1, 1) := by decide +kernel
theorem dX2_isUnassigned_39 : decode cX2_isUnassigned 39 = .ok (.iconst 3, 1) := by decide +kernel
theorem dX2_isUnassigned_40 : decode cX2_isUnassigned 40 = .ok (.if_icmp .eq 8, 3) := by decide +kernel
theorem dX2_isUnassigned_43 : decode cX2_isUnassigned 43 = .ok (.iload_n 1, 1) := by decide +kernel
theorem dX2_isUnassigned_44 : decode cX2_isUnassigned 44 = .ok (.iconst 5, 1) := by decide +kernel
theorem dX2_isUnassigned_45 : decode cX2_isUnassigned 45 = .ok (.if_icmp .ne 7, 3) := by decide +kernel
theorem dX2_isUnassigned_48 : decode cX2_isUnassigned 48 = .ok (.iconst 1, 1) := by decide +kernel
theorem dX2_isUnassigned_49 : decode cX2_isUnassigned 49 = .ok (.goto 4, 3) := by decide +kernel
theorem dX2_isUnassigned_52 : decode cX2_isUnassigned 52 = .ok (.iconst 0, 1) := by decide +kernel
theorem dX2_isUnassigned_53 : decode cX2_isUnassigned 53 = .ok (.istore_n 2, 1) := by decide +kernel
theorem dX2_isUnassigned_54 : decode cX2_isUnassigned 54 = .ok (.iload_n 2, 1) := by decide +kernel
theorem dX2_isUnassigned_55 : decode cX2_isUnassigned 55 = .ok (.ifCond .eq 14, 3) := by decide +kernel
theorem dX2_isUnassigned_58 : decode cX2_isUnassigned 58 = .ok (.iload_n 0, 1) := by decide +kernel
theorem dX2_isUnassigned_59 : decode cX2_isUnassigned 59 = .ok (.bipush 64, 2) := by decide +kernel
theorem dX2_isUnassigned_61 : decode cX2_isUnassigned 61 = .ok (.iand, 1) := by decide +kernel
theorem dX2_isUnassigned_62 : decode cX2_isUnassigned 62 = .ok (.ifCond .eq 7, 3) := by decide +kernel
theorem dX2_isUnassigned_65 : decode cX2_isUnassigned 65 = .ok (.iconst 1, 1) := by decide +kernel
theorem dX2_isUnassigned_66 : decode cX2_isUnassigned 66 = .ok (.goto 4, 3) := by decide +kernel
theorem dX2_isUnassigned_69 : decode cX2_isUnassigned 69 = .ok (.iconst 0, 1) := by decide +kernel
theorem dX2_isUnassigned_70 : decode cX2_isUnassigned 70 = .ok (.ireturn, 1) := by decide +kernel
set_option maxRecDepth 20000 in
theorem ggX2_doTwoParts_X2_sourcePlace : GoodIn wsX2_doTwoParts wsX2_sourcePlace := goodIn_r _ [5, 6, 7, 8, 9, 10, 11, 12, 4, 13, 14, 15, 16, 17, 18, 19, 20, 21, 22, 23, 24, 25, 26, 27, 28, 29, 30, 31, 32, 33, 34, 35, 36, 37, 38, 39, 40, 41, 42, 43, 44, 45, 46, 47, 48, 49, 141, 142, 143, 144, 145, 146, 147, 148, 149, 150, 151, 152] (by decide +kernel) (by decide +kernel)
set_option maxRecDepth 20000 in
theorem gX2_doTwoParts_X2_sourcePlace : GoodIn wsX2_doTwoParts (wsV RX2 96 RX2 yX2_sourcePlace wsX2_sourcePlace) := goodIn_app (goodIn_of _ (by decide +kernel)) ggX2_doTwoParts_X2_sourcePlace
set_option maxRecDepth 20000 in
theorem ggX2_doTwoParts_X2_valueAt : GoodIn wsX2_doTwoParts wsX2_valueAt := goodIn_r _ [53, 8, 14, 6, 9, 54, 16, 55, 56, 57, 15, 17, 18, 19, 20, 21, 22, 23, 24, 25, 26, 27, 28, 29, 30, 31, 32, 33, 34, 35, 36, 37, 38, 39, 40, 141, 142, 143, 144, 145, 146, 147, 148, 149, 150, 151, 152] (by decide +kernel) (by decide +kernel)
set_option maxRecDepth 20000 in
theorem gX2_doTwoParts_X2_valueAt : GoodIn wsX2_doTwoParts (wsV RX2 100 RX2 yX2_valueAt wsX2_valueAt) := goodIn_app (goodIn_of _ (by decide +kernel)) ggX2_doTwoParts_X2_valueAt
set_option maxRecDepth 20000 in
theorem ggX2_doTwoParts_X2_destinationPlace : GoodIn wsX2_doTwoParts wsX2_destinationPlace := goodIn_r _ [61, 8, 10, 11, 12, 4, 13, 9, 14, 7, 15, 16, 17, 18, 19, 20, 21, 22, 23, 24, 25, 26, 27, 28, 29, 30, 31, 32, 33, 34, 35, 36, 37, 38, 39, 40, 41, 42, 43, 44, 45, 46, 47, 48, 49, 141, 142, 143, 144, 145, 146, 147, 148, 149, 150, 151, 152] (by decide +kernel) (by decide +kernel)
set_option maxRecDepth 20000 in
theorem gX2_doTwoParts_X2_destinationPlace : GoodIn wsX2_doTwoParts (wsV RX2 104 RX2 yX2_destinationPlace wsX2_destinationPlace) := goodIn_app (goodIn_of _ (by decide +kernel)) ggX2_doTwoParts_X2_destinationPlace
set_option maxRecDepth 20000 in
theorem ggX2_doTwoParts_X2_combine : GoodIn wsX2_doTwoParts wsX2_combine := goodIn_r _ [65, 7, 9, 66, 67, 68, 4, 69, 70, 71, 72, 73, 74, 75, 76, 45, 46, 47, 48, 49, 77, 78, 79, 80, 81, 82, 83, 84, 141, 142, 143, 144] (by decide +kernel) (by decide +kernel)
set_option maxRecDepth 20000 in
theorem gX2_doTwoParts_X2_combine : GoodIn wsX2_doTwoParts (wsV RX2 107 RX2 yX2_combine wsX2_combine) := goodIn_app (goodIn_of _ (by decide +kernel)) ggX2_doTwoParts_X2_combine
set_option maxRecDepth 20000 in
theorem ggX2_doTwoParts_X2_put : GoodIn wsX2_doTwoParts wsX2_put := goodIn_r _ [88, 6, 8, 14, 45, 46, 47, 4, 48, 9, 49, 7, 89, 16, 90, 91, 19, 22, 23, 24, 25, 92, 93, 94, 95, 96, 57, 15, 17, 18, 20, 21, 26, 27, 28, 29, 30, 31, 32, 33, 34, 35, 36, 37, 38, 39, 40, 97, 98, 99, 100, 101, 102, 103, 104, 105, 106, 107, 108, 109, 110, 111, 112, 113, 114, 115, 116, 117, 118, 119, 120, 141, 142, 143, 144, 145, 146, 147, 148, 149, 150, 151, 152] (by decide +kernel) (by decide +kernel)
set_option maxRecDepth 20000 in
theorem gX2_doTwoParts_X2_put : GoodIn wsX2_doTwoParts (wsV RX2 111 RX2 yX2_put wsX2_put) := goodIn_app (goodIn_of _ (by decide +kernel)) ggX2_doTwoParts_X2_put
set_option maxRecDepth 20000 in
theorem ggX2_doTwoParts_X2_twoPartsCycles : GoodIn wsX2_doTwoParts wsX2_twoPartsCycles := goodIn_r _ [123, 8, 124, 125, 126] (by decide +kernel) (by decide +kernel)
set_option maxRecDepth 20000 in
theorem gX2_doTwoParts_X2_twoPartsCycles : GoodIn wsX2_doTwoParts (va_wsS RX2 115 yX2_twoPartsCycles wsX2_twoPartsCycles) := goodIn_app (goodIn_of _ (by decide +kernel)) ggX2_doTwoParts_X2_twoPartsCycles
set_option maxRecDepth 20000 in
theorem ggX2_doTwoParts_X2_kindOfSource : GoodIn wsX2_doTwoParts wsX2_kindOfSource := goodIn_r _ [129, 8, 130] (by decide +kernel) (by decide +kernel)
set_option maxRecDepth 20000 in
theorem gX2_doTwoParts_X2_kindOfSource : GoodIn wsX2_doTwoParts (va_wsS RX2 119 yX2_kindOfSource wsX2_kindOfSource) := goodIn_app (goodIn_of _ (by decide +kernel)) ggX2_doTwoParts_X2_kindOfSource
set_option maxRecDepth 20000 in
theorem ggX2_doTwoParts_X2_spendByKind : GoodIn wsX2_doTwoParts wsX2_spendByKind := goodIn_r _ [134, 135, 136, 137, 4, 138, 139, 140, 141, 142, 143, 144] (by decide +kernel) (by decide +kernel)
set_option maxRecDepth 20000 in
theorem gX2_doTwoParts_X2_spendByKind : GoodIn wsX2_doTwoParts (wsV RX2 122 RX2 yX2_spendByKind wsX2_spendByKind) := goodIn_app (goodIn_of _ (by decide +kernel)) ggX2_doTwoParts_X2_spendByKind
theorem dX2_doTwoParts_0 : decode cX2_doTwoParts 0 = .ok (.iload_n 1, 1) := by decide +kernel
theorem dX2_doTwoParts_1 : decode cX2_doTwoParts 1 = .ok (.bipush 64, 2) := by decide +kernel
theorem dX2_doTwoParts_3 : decode cX2_doTwoParts 3 = .ok (.iand, 1) := by decide +kernel
theorem dX2_doTwoParts_4 : decode cX2_doTwoParts 4 = .ok (.ifCond .eq 7, 3) := by decide +kernel
theorem dX2_doTwoParts_7 : decode cX2_doTwoParts 7 = .ok (.iconst 1, 1) := by decide +kernel
theorem dX2_doTwoParts_8 : decode cX2_doTwoParts 8 = .ok (.goto 4, 3) := by decide +kernel
theorem dX2_doTwoParts_11 : decode cX2_doTwoParts 11 = .ok (.iconst 0, 1) := by decide +kernel
theorem dX2_doTwoParts_12 : decode cX2_doTwoParts 12 = .ok (.istore_n 2, 1) := by decide +kernel
theorem dX2_doTwoParts_13 : decode cX2_doTwoParts 13 = .ok (.aload_n 0, 1) := by decide +kernel
theorem dX2_doTwoParts_14 : decode cX2_doTwoParts 14 = .ok (.iload_n 1, 1) := by decide +kernel
theorem dX2_doTwoParts_15 : decode cX2_doTwoParts 15 = .ok (.iload_n 1, 1) := by decide +kernel
theorem dX2_doTwoParts_16 : decode cX2_doTwoParts 16 = .ok (.bipush 8, 2) := by decide +kernel
theorem dX2_doTwoParts_18 : decode cX2_doTwoParts 18 = .ok (.ishr, 1) := by decide +kernel
theorem dX2_doTwoParts_19 : decode cX2_doTwoParts 19 = .ok (.bipush 15, 2) := by decide +kernel
theorem dX2_doTwoParts_21 : decode cX2_doTwoParts 21 = .ok (.iand, 1) := by decide +kernel
theorem dX2_doTwoParts_22 : decode cX2_doTwoParts 22 = .ok (.invokevirtual 96, 3) := by decide +kernel
theorem dX2_doTwoParts_25 : decode cX2_doTwoParts 25 = .ok (.istore_n 3, 1) := by decide +kernel
theorem dX2_doTwoParts_26 : decode cX2_doTwoParts 26 = .ok (.aload_n 0, 1) := by decide +kernel
theorem dX2_doTwoParts_27 : decode cX2_doTwoParts 27 = .ok (.iload_n 3, 1) := by decide +kernel
theorem dX2_doTwoParts_28 : decode cX2_doTwoParts 28 = .ok (.iload_n 2, 1) := by decide +kernel
theorem dX2_doTwoParts_29 : decode cX2_doTwoParts 29 = .ok (.invokevirtual 100, 3) := by decide +kernel
theorem dX2_doTwoParts_32 : decode cX2_doTwoParts 32 = .ok (.istore 4, 2) := by decide +kernel
theorem dX2_doTwoParts_34 : decode cX2_doTwoParts 34 = .ok (.aload_n 0, 1) := by decide +kernel
theorem dX2_doTwoParts_35 : decode cX2_doTwoParts 35 = .ok (.iload_n 1, 1) := by decide +kernel
theorem dX2_doTwoParts_36 : decode cX2_doTwoParts 36 = .ok (.invokevirtual 104, 3) := by decide +kernel
theorem dX2_doTwoParts_39 : decode cX2_doTwoParts 39 = .ok (.istore 5, 2) := by decide +kernel
theorem dX2_doTwoParts_41 : decode cX2_doTwoParts 41 = .ok (.aload_n 0, 1) := by decide +kernel
theorem dX2_doTwoParts_42 : decode cX2_doTwoParts 42 = .ok (.iload 5, 2) := by decide +kernel
theorem dX2_doTwoParts_44 : decode cX2_doTwoParts 44 = .ok (.iload_n 2, 1) := by decide +kernel
theorem dX2_doTwoParts_45 : decode cX2_doTwoParts 45 = .ok (.invokevirtual 100, 3) := by decide +kernel
theorem dX2_doTwoParts_48 : decode cX2_doTwoParts 48 = .ok (.istore 6, 2) := by decide +kernel
theorem dX2_doTwoParts_50 : decode cX2_doTwoParts 50 = .ok (.iload_n 1, 1) := by decide +kernel
theorem dX2_doTwoParts_51 : decode cX2_doTwoParts 51 = .ok (.bipush 12, 2) := by decide +kernel
theorem dX2_doTwoParts_53 : decode cX2_doTwoParts 53 = .ok (.ishr, 1) := by decide +kernel
theorem dX2_doTwoParts_54 : decode cX2_doTwoParts 54 = .ok (.istore 7, 2) := by decide +kernel
theorem dX2_doTwoParts_56 : decode cX2_doTwoParts 56 = .ok (.aload_n 0, 1) := by decide +kernel
theorem dX2_doTwoParts_57 : decode cX2_doTwoParts 57 = .ok (.iload 7, 2) := by decide +kernel
theorem dX2_doTwoParts_59 : decode cX2_doTwoParts 59 = .ok (.iload 4, 2) := by decide +kernel
theorem dX2_doTwoParts_61 : decode cX2_doTwoParts 61 = .ok (.iload 6, 2) := by decide +kernel
theorem dX2_doTwoParts_63 : decode cX2_doTwoParts 63 = .ok (.iload_n 2, 1) := by decide +kernel
theorem dX2_doTwoParts_64 : decode cX2_doTwoParts 64 = .ok (.invokevirtual 107, 3) := by decide +kernel
theorem dX2_doTwoParts_67 : decode cX2_doTwoParts 67 = .ok (.istore 8, 2) := by decide +kernel
theorem dX2_doTwoParts_69 : decode cX2_doTwoParts 69 = .ok (.iload 7, 2) := by decide +kernel
theorem dX2_doTwoParts_71 : decode cX2_doTwoParts 71 = .ok (.bipush 9, 2) := by decide +kernel
theorem dX2_doTwoParts_73 : decode cX2_doTwoParts 73 = .ok (.if_icmp .eq 19, 3) := by decide +kernel
theorem dX2_doTwoParts_76 : decode cX2_doTwoParts 76 = .ok (.iload 7, 2) := by decide +kernel
theorem dX2_doTwoParts_78 : decode cX2_doTwoParts 78 = .ok (.bipush 11, 2) := by decide +kernel
theorem dX2_doTwoParts_80 : decode cX2_doTwoParts 80 = .ok (.if_icmp .eq 12, 3) := by decide +kernel
theorem dX2_doTwoParts_83 : decode cX2_doTwoParts 83 = .ok (.aload_n 0, 1) := by decide +kernel
theorem dX2_doTwoParts_84 : decode cX2_doTwoParts 84 = .ok (.iload 5, 2) := by decide +kernel
theorem dX2_doTwoParts_86 : decode cX2_doTwoParts 86 = .ok (.iload 8, 2) := by decide +kernel
theorem dX2_doTwoParts_88 : decode cX2_doTwoParts 88 = .ok (.iload_n 2, 1) := by decide +kernel
theorem dX2_doTwoParts_89 : decode cX2_doTwoParts 89 = .ok (.invokevirtual 111, 3) := by decide +kernel
theorem dX2_doTwoParts_92 : decode cX2_doTwoParts 92 = .ok (.aload_n 0, 1) := by decide +kernel
theorem dX2_doTwoParts_93 : decode cX2_doTwoParts 93 = .ok (.iload 5, 2) := by decide +kernel
theorem dX2_doTwoParts_95 : decode cX2_doTwoParts 95 = .ok (.invokestatic 115, 3) := by decide +kernel
theorem dX2_doTwoParts_98 : decode cX2_doTwoParts 98 = .ok (.iload_n 3, 1) := by decide +kernel
theorem dX2_doTwoParts_99 : decode cX2_doTwoParts 99 = .ok (.iload_n 1, 1) := by decide +kernel
theorem dX2_doTwoParts_100 : decode cX2_doTwoParts 100 = .ok (.invokestatic 119, 3) := by decide +kernel
theorem dX2_doTwoParts_103 : decode cX2_doTwoParts 103 = .ok (.invokevirtual 122, 3) := by decide +kernel
theorem dX2_doTwoParts_106 : decode cX2_doTwoParts 106 = .ok (.return_, 1) := by decide +kernel
set_option maxRecDepth 20000 in
theorem ggX2_doOnePart_X2_sourcePlace : GoodIn wsX2_doOnePart wsX2_sourcePlace := goodIn_r _ [9, 10, 11, 12, 2, 13, 14, 15, 8, 16, 17, 18, 19, 20, 21, 22, 23, 24, 25, 26, 27, 28, 29, 30, 31, 32, 33, 34, 35, 36, 37, 38, 39, 40, 41, 42, 43, 44, 45, 46, 47, 48, 49, 50, 51, 52, 138, 139, 140, 141, 142, 143, 144, 145, 146, 147, 148, 149] (by decide +kernel) (by decide +kernel)
set_option maxRecDepth 20000 in
theorem gX2_doOnePart_X2_sourcePlace : GoodIn wsX2_doOnePart (wsV RX2 96 RX2 yX2_sourcePlace wsX2_sourcePlace) := goodIn_app (goodIn_of _ (by decide +kernel)) ggX2_doOnePart_X2_sourcePlace
set_option maxRecDepth 20000 in
theorem ggX2_doOnePart_X2_valueAt : GoodIn wsX2_doOnePart wsX2_valueAt := goodIn_r _ [56, 12, 17, 10, 2, 57, 19, 58, 59, 60, 18, 20, 21, 22, 23, 24, 25, 26, 27, 28, 29, 30, 31, 32, 33, 34, 35, 36, 37, 38, 39, 40, 41, 42, 43, 138, 139, 140, 141, 142, 143, 144, 145, 146, 147, 148, 149] (by decide +kernel) (by decide +kernel)
set_option maxRecDepth 20000 in
theorem gX2_doOnePart_X2_valueAt : GoodIn wsX2_doOnePart (wsV RX2 100 RX2 yX2_valueAt wsX2_valueAt) := goodIn_app (goodIn_of _ (by decide +kernel)) ggX2_doOnePart_X2_valueAt
set_option maxRecDepth 20000 in
theorem ggX2_doOnePart_X2_kindOfSource : GoodIn wsX2_doOnePart wsX2_kindOfSource := goodIn_r _ [63, 12, 64] (by decide +kernel) (by decide +kernel)
set_option maxRecDepth 20000 in
theorem gX2_doOnePart_X2_kindOfSource : GoodIn wsX2_doOnePart (va_wsS RX2 119 yX2_kindOfSource wsX2_kindOfSource) := goodIn_app (goodIn_of _ (by decide +kernel)) ggX2_doOnePart_X2_kindOfSource
set_option maxRecDepth 20000 in
theorem ggX2_doOnePart_X2_push : GoodIn wsX2_doOnePart wsX2_push := goodIn_r _ [68, 17, 2, 44, 45, 46, 8, 47, 48, 49, 50, 51, 52, 11, 69, 19, 70, 71, 22, 25, 26, 27, 28, 72, 73, 74, 75, 76, 60, 18, 20, 21, 23, 24, 29, 30, 31, 32, 33, 34, 35, 36, 37, 38, 39, 40, 41, 42, 43, 77, 78, 79, 80, 81, 82, 83, 84, 85, 86, 87, 88, 89, 90, 91, 92, 93, 94, 95, 96, 97, 98, 99, 100, 138, 139, 140, 141, 142, 143, 144, 145, 146, 147, 148, 149] (by decide +kernel) (by decide +kernel)
set_option maxRecDepth 20000 in
theorem gX2_doOnePart_X2_push : GoodIn wsX2_doOnePart (wsV RX2 88 RX2 yX2_push wsX2_push) := goodIn_app (goodIn_of _ (by decide +kernel)) ggX2_doOnePart_X2_push
set_option maxRecDepth 20000 in
theorem ggX2_doOnePart_X2_spend : GoodIn wsX2_doOnePart wsX2_spend := goodIn_r _ [104, 105, 106, 138, 139, 140, 141] (by decide +kernel) (by decide +kernel)
set_option maxRecDepth 20000 in
theorem gX2_doOnePart_X2_spend : GoodIn wsX2_doOnePart (wsV RX2 93 RX2 yX2_spend wsX2_spend) := goodIn_app (goodIn_of _ (by decide +kernel)) ggX2_doOnePart_X2_spend
set_option maxRecDepth 20000 in
theorem ggX2_doOnePart_X2_spendByKind : GoodIn wsX2_doOnePart wsX2_spendByKind := goodIn_r _ [110, 101, 102, 103, 8, 104, 105, 106, 138, 139, 140, 141] (by decide +kernel) (by decide +kernel)
set_option maxRecDepth 20000 in
theorem gX2_doOnePart_X2_spendByKind : GoodIn wsX2_doOnePart (wsV RX2 122 RX2 yX2_spendByKind wsX2_spendByKind) := goodIn_app (goodIn_of _ (by decide +kernel)) ggX2_doOnePart_X2_spendByKind
set_option maxRecDepth 20000 in
theorem ggX2_doOnePart_X2_setRegister : GoodIn wsX2_doOnePart wsX2_setRegister := goodIn_r _ [51, 2, 52, 11, 138, 139, 140, 141] (by decide +kernel) (by decide +kernel)
set_option maxRecDepth 20000 in
theorem gX2_doOnePart_X2_setRegister : GoodIn wsX2_doOnePart (wsV RX2 44 RX2 yX2_setRegister wsX2_setRegister) := goodIn_app (goodIn_of _ (by decide +kernel)) ggX2_doOnePart_X2_setRegister
set_option maxRecDepth 20000 in
theorem ggX2_doOnePart_X2_change : GoodIn wsX2_doOnePart wsX2_change := goodIn_r _ [114, 11, 115, 116, 117, 8, 118, 2, 119, 120, 121, 122, 123, 124, 125, 126, 127, 128, 129, 48, 49, 50, 51, 52, 130, 131, 132, 133, 138, 139, 140, 141] (by decide +kernel) (by decide +kernel)
set_option maxRecDepth 20000 in
theorem gX2_doOnePart_X2_change : GoodIn wsX2_doOnePart (wsV RX2 132 RX2 yX2_change wsX2_change) := goodIn_app (goodIn_of _ (by decide +kernel)) ggX2_doOnePart_X2_change
set_option maxRecDepth 20000 in
theorem ggX2_doOnePart_X2_put : GoodIn wsX2_doOnePart wsX2_put := goodIn_r _ [137, 10, 12, 17, 48, 49, 50, 8, 51, 2, 52, 11, 69, 19, 70, 71, 22, 25, 26, 27, 28, 72, 73, 74, 75, 76, 60, 18, 20, 21, 23, 24, 29, 30, 31, 32, 33, 34, 35, 36, 37, 38, 39, 40, 41, 42, 43, 77, 78, 79, 80, 81, 82, 83, 84, 85, 86, 87, 88, 89, 90, 91, 92, 93, 94, 95, 96, 97, 98, 99, 100, 138, 139, 140, 141, 142, 143, 144, 145, 146, 147, 148, 149] (by decide +kernel) (by decide +kernel)
set_option maxRecDepth 20000 in
theorem gX2_doOnePart_X2_put : GoodIn wsX2_doOnePart (wsV RX2 111 RX2 yX2_put wsX2_put) := goodIn_app (goodIn_of _ (by decide +kernel)) ggX2_doOnePart_X2_put
theorem dX2_doOnePart_0 : decode cX2_doOnePart 0 = .ok (.iload_n 1, 1) := by decide +kernel
theorem dX2_doOnePart_1 : decode cX2_doOnePart 1 = .ok (.bipush 64, 2) := by decide +kernel
theorem dX2_doOnePart_3 : decode cX2_doOnePart 3 = .ok (.iand, 1) := by decide +kernel
theorem dX2_doOnePart_4 : decode cX2_doOnePart 4 = .ok (.ifCond .eq 7, 3) := by decide +kernel
theorem dX2_doOnePart_7 : decode cX2_doOnePart 7 = .ok (.iconst 1, 1) := by decide +kernel
theorem dX2_doOnePart_8 : decode cX2_doOnePart 8 = .ok (.goto 4, 3) := by decide +kernel
theorem dX2_doOnePart_11 : decode cX2_doOnePart 11 = .ok (.iconst 0, 1) := by decide +kernel
theorem dX2_doOnePart_12 : decode cX2_doOnePart 12 = .ok (.istore_n 2, 1) := by decide +kernel
theorem dX2_doOnePart_13 : decode cX2_doOnePart 13 = .ok (.aload_n 0, 1) := by decide +kernel
theorem dX2_doOnePart_14 : decode cX2_doOnePart 14 = .ok (.iload_n 1, 1) := by decide +kernel
theorem dX2_doOnePart_15 : decode cX2_doOnePart 15 = .ok (.iload_n 1, 1) := by decide +kernel
theorem dX2_doOnePart_16 : decode cX2_doOnePart 16 = .ok (.bipush 15, 2) := by decide +kernel
theorem dX2_doOnePart_18 : decode cX2_doOnePart 18 = .ok (.iand, 1) := by decide +kernel
theorem dX2_doOnePart_19 : decode cX2_doOnePart 19 = .ok (.invokevirtual 96, 3) := by decide +kernel
theorem dX2_doOnePart_22 : decode cX2_doOnePart 22 = .ok (.istore_n 3, 1) := by decide +kernel
theorem dX2_doOnePart_23 : decode cX2_doOnePart 23 = .ok (.aload_n 0, 1) := by decide +kernel
theorem dX2_doOnePart_24 : decode cX2_doOnePart 24 = .ok (.iload_n 3, 1) := by decide +kernel
theorem dX2_doOnePart_25 : decode cX2_doOnePart 25 = .ok (.iload_n 2, 1) := by decide +kernel
theorem dX2_doOnePart_26 : decode cX2_doOnePart 26 = .ok (.invokevirtual 100, 3) := by decide +kernel
theorem dX2_doOnePart_29 : decode cX2_doOnePart 29 = .ok (.istore 4, 2) := by decide +kernel
theorem dX2_doOnePart_31 : decode cX2_doOnePart 31 = .ok (.iload_n 3, 1) := by decide +kernel
theorem dX2_doOnePart_32 : decode cX2_doOnePart 32 = .ok (.iload_n 1, 1) := by decide +kernel
theorem dX2_doOnePart_33 : decode cX2_doOnePart 33 = .ok (.invokestatic 119, 3) := by decide +kernel
theorem dX2_doOnePart_36 : decode cX2_doOnePart 36 = .ok (.istore 5, 2) := by decide +kernel
theorem dX2_doOnePart_38 : decode cX2_doOnePart 38 = .ok (.iload_n 1, 1) := by decide +kernel
theorem dX2_doOnePart_39 : decode cX2_doOnePart 39 = .ok (.bipush 7, 2) := by decide +kernel
theorem dX2_doOnePart_41 : decode cX2_doOnePart 41 = .ok (.ishr, 1) := by decide +kernel
theorem dX2_doOnePart_42 : decode cX2_doOnePart 42 = .ok (.bipush 7, 2) := by decide +kernel
theorem dX2_doOnePart_44 : decode cX2_doOnePart 44 = .ok (.iand, 1) := by decide +kernel
theorem dX2_doOnePart_45 : decode cX2_doOnePart 45 = .ok (.istore 6, 2) := by decide +kernel
theorem dX2_doOnePart_47 : decode cX2_doOnePart 47 = .ok (.iload 6, 2) := by decide +kernel
theorem dX2_doOnePart_49 : decode cX2_doOnePart 49 = .ok (.iconst 4, 1) := by decide +kernel
theorem dX2_doOnePart_50 : decode cX2_doOnePart 50 = .ok (.if_icmp .ne 39, 3) := by decide +kernel
theorem dX2_doOnePart_53 : decode cX2_doOnePart 53 = .ok (.aload_n 0, 1) := by decide +kernel
theorem dX2_doOnePart_54 : decode cX2_doOnePart 54 = .ok (.iload 4, 2) := by decide +kernel
theorem dX2_doOnePart_56 : decode cX2_doOnePart 56 = .ok (.iload_n 2, 1) := by decide +kernel
theorem dX2_doOnePart_57 : decode cX2_doOnePart 57 = .ok (.invokevirtual 88, 3) := by decide +kernel
theorem dX2_doOnePart_60 : decode cX2_doOnePart 60 = .ok (.iload_n 1, 1) := by decide +kernel
theorem dX2_doOnePart_61 : decode cX2_doOnePart 61 = .ok (.bipush 63, 2) := by decide +kernel
theorem dX2_doOnePart_63 : decode cX2_doOnePart 63 = .ok (.iand, 1) := by decide +kernel
theorem dX2_doOnePart_64 : decode cX2_doOnePart 64 = .ok (.bipush 48, 2) := by decide +kernel
theorem dX2_doOnePart_66 : decode cX2_doOnePart 66 = .ok (.if_icmp .ne 11, 3) := by decide +kernel
theorem dX2_doOnePart_69 : decode cX2_doOnePart 69 = .ok (.aload_n 0, 1) := by decide +kernel
theorem dX2_doOnePart_70 : decode cX2_doOnePart 70 = .ok (.iconst 4, 1) := by decide +kernel
theorem dX2_doOnePart_71 : decode cX2_doOnePart 71 = .ok (.invokevirtual 93, 3) := by decide +kernel
theorem dX2_doOnePart_74 : decode cX2_doOnePart 74 = .ok (.goto 75, 3) := by decide +kernel
theorem dX2_doOnePart_77 : decode cX2_doOnePart 77 = .ok (.aload_n 0, 1) := by decide +kernel
theorem dX2_doOnePart_78 : decode cX2_doOnePart 78 = .ok (.getstatic 126, 3) := by decide +kernel
theorem dX2_doOnePart_81 : decode cX2_doOnePart 81 = .ok (.iload 5, 2) := by decide +kernel
theorem dX2_doOnePart_83 : decode cX2_doOnePart 83 = .ok (.invokevirtual 122, 3) := by decide +kernel
theorem dX2_doOnePart_86 : decode cX2_doOnePart 86 = .ok (.goto 63, 3) := by decide +kernel
theorem dX2_doOnePart_89 : decode cX2_doOnePart 89 = .ok (.iload 6, 2) := by decide +kernel
theorem dX2_doOnePart_91 : decode cX2_doOnePart 91 = .ok (.iconst 5, 1) := by decide +kernel
theorem dX2_doOnePart_92 : decode cX2_doOnePart 92 = .ok (.if_icmp .ne 33, 3) := by decide +kernel
theorem dX2_doOnePart_95 : decode cX2_doOnePart 95 = .ok (.aload_n 0, 1) := by decide +kernel
theorem dX2_doOnePart_96 : decode cX2_doOnePart 96 = .ok (.aload_n 0, 1) := by decide +kernel
theorem dX2_doOnePart_97 : decode cX2_doOnePart 97 = .ok (.getfield 16, 3) := by decide +kernel
theorem dX2_doOnePart_100 : decode cX2_doOnePart 100 = .ok (.iconst 0, 1) := by decide +kernel
theorem dX2_doOnePart_101 : decode cX2_doOnePart 101 = .ok (.iaload, 1) := by decide +kernel
theorem dX2_doOnePart_102 : decode cX2_doOnePart 102 = .ok (.iconst 0, 1) := by decide +kernel
theorem dX2_doOnePart_103 : decode cX2_doOnePart 103 = .ok (.invokevirtual 88, 3) := by decide +kernel
theorem dX2_doOnePart_106 : decode cX2_doOnePart 106 = .ok (.aload_n 0, 1) := by decide +kernel
theorem dX2_doOnePart_107 : decode cX2_doOnePart 107 = .ok (.iconst 0, 1) := by decide +kernel
theorem dX2_doOnePart_108 : decode cX2_doOnePart 108 = .ok (.iload 4, 2) := by decide +kernel
theorem dX2_doOnePart_110 : decode cX2_doOnePart 110 = .ok (.invokevirtual 44, 3) := by decide +kernel
theorem dX2_doOnePart_113 : decode cX2_doOnePart 113 = .ok (.aload_n 0, 1) := by decide +kernel
theorem dX2_doOnePart_114 : decode cX2_doOnePart 114 = .ok (.getstatic 129, 3) := by decide +kernel
theorem dX2_doOnePart_117 : decode cX2_doOnePart 117 = .ok (.iload 5, 2) := by decide +kernel
theorem dX2_doOnePart_119 : decode cX2_doOnePart 119 = .ok (.invokevirtual 122, 3) := by decide +kernel
theorem dX2_doOnePart_122 : decode cX2_doOnePart 122 = .ok (.goto 27, 3) := by decide +kernel
theorem dX2_doOnePart_125 : decode cX2_doOnePart 125 = .ok (.aload_n 0, 1) := by decide +kernel
theorem dX2_doOnePart_126 : decode cX2_doOnePart 126 = .ok (.iload_n 3, 1) := by decide +kernel
theorem dX2_doOnePart_127 : decode cX2_doOnePart 127 = .ok (.aload_n 0, 1) := by decide +kernel
theorem dX2_doOnePart_128 : decode cX2_doOnePart 128 = .ok (.iload 6, 2) := by decide +kernel
theorem dX2_doOnePart_130 : decode cX2_doOnePart 130 = .ok (.iload 4, 2) := by decide +kernel
theorem dX2_doOnePart_132 : decode cX2_doOnePart 132 = .ok (.iload_n 2, 1) := by decide +kernel
theorem dX2_doOnePart_133 : decode cX2_doOnePart 133 = .ok (.invokevirtual 132, 3) := by decide +kernel
theorem dX2_doOnePart_136 : decode cX2_doOnePart 136 = .ok (.iload_n 2, 1) := by decide +kernel
theorem dX2_doOnePart_137 : decode cX2_doOnePart 137 = .ok (.invokevirtual 111, 3) := by decide +kernel
theorem dX2_doOnePart_140 : decode cX2_doOnePart 140 = .ok (.aload_n 0, 1) := by decide +kernel
theorem dX2_doOnePart_141 : decode cX2_doOnePart 141 = .ok (.getstatic 136, 3) := by decide +kernel
theorem dX2_doOnePart_144 : decode cX2_doOnePart 144 = .ok (.iload 5, 2) := by decide +kernel
theorem dX2_doOnePart_146 : decode cX2_doOnePart 146 = .ok (.invokevirtual 122, 3) := by decide +kernel
theorem dX2_doOnePart_149 : decode cX2_doOnePart 149 = .ok (.return_, 1) := by decide +kernel
set_option maxRecDepth 20000 in
theorem ggX2_doJump_X2_isJumpTaken : GoodIn wsX2_doJump wsX2_isJumpTaken := goodIn_r _ [5, 6, 7, 8, 4, 9, 10, 27, 28, 29, 30] (by decide +kernel) (by decide +kernel)
set_option maxRecDepth 20000 in
theorem gX2_doJump_X2_isJumpTaken : GoodIn wsX2_doJump (wsV RX2 139 RX2 yX2_isJumpTaken wsX2_isJumpTaken) := goodIn_app (goodIn_of _ (by decide +kernel)) ggX2_doJump_X2_isJumpTaken
set_option maxRecDepth 20000 in
theorem ggX2_doJump_X2_addToRegister : GoodIn wsX2_doJump wsX2_addToRegister := goodIn_r _ [14, 10, 15, 16, 17, 4, 18, 19, 20, 27, 28, 29, 30] (by decide +kernel) (by decide +kernel)
set_option maxRecDepth 20000 in
theorem gX2_doJump_X2_addToRegister : GoodIn wsX2_doJump (wsV RX2 62 RX2 yX2_addToRegister wsX2_addToRegister) := goodIn_app (goodIn_of _ (by decide +kernel)) ggX2_doJump_X2_addToRegister
set_option maxRecDepth 20000 in
theorem ggX2_doJump_X2_spend : GoodIn wsX2_doJump wsX2_spend := goodIn_r _ [24, 25, 26, 27, 28, 29, 30] (by decide +kernel) (by decide +kernel)
set_option maxRecDepth 20000 in
theorem gX2_doJump_X2_spend : GoodIn wsX2_doJump (wsV RX2 93 RX2 yX2_spend wsX2_spend) := goodIn_app (goodIn_of _ (by decide +kernel)) ggX2_doJump_X2_spend
theorem dX2_doJump_0 : decode cX2_doJump 0 = .ok (.aload_n 0, 1) := by decide +kernel
theorem dX2_doJump_1 : decode cX2_doJump 1 = .ok (.iload_n 1, 1) := by decide +kernel
theorem dX2_doJump_2 : decode cX2_doJump 2 = .ok (.bipush 10, 2) := by decide +kernel
theorem dX2_doJump_4 : decode cX2_doJump 4 = .ok (.ishr, 1) := by decide +kernel
theorem dX2_doJump_5 : decode cX2_doJump 5 = .ok (.bipush 7, 2) := by decide +kernel
theorem dX2_doJump_7 : decode cX2_doJump 7 = .ok (.iand, 1) := by decide +kernel
theorem dX2_doJump_8 : decode cX2_doJump 8 = .ok (.invokevirtual 139, 3) := by decide +kernel
theorem dX2_doJump_11 : decode cX2_doJump 11 = .ok (.ifCond .eq 25, 3) := by decide +kernel
theorem dX2_doJump_14 : decode cX2_doJump 14 = .ok (.iload_n 1, 1) := by decide +kernel
theorem dX2_doJump_15 : decode cX2_doJump 15 = .ok (.sipush 1023, 3) := by decide +kernel
theorem dX2_doJump_18 : decode cX2_doJump 18 = .ok (.iand, 1) := by decide +kernel
theorem dX2_doJump_19 : decode cX2_doJump 19 = .ok (.sipush 512, 3) := by decide +kernel
theorem dX2_doJump_22 : decode cX2_doJump 22 = .ok (.ixor, 1) := by decide +kernel
theorem dX2_doJump_23 : decode cX2_doJump 23 = .ok (.sipush 512, 3) := by decide +kernel
theorem dX2_doJump_26 : decode cX2_doJump 26 = .ok (.isub, 1) := by decide +kernel
theorem dX2_doJump_27 : decode cX2_doJump 27 = .ok (.istore_n 2, 1) := by decide +kernel
theorem dX2_doJump_28 : decode cX2_doJump 28 = .ok (.aload_n 0, 1) := by decide +kernel
theorem dX2_doJump_29 : decode cX2_doJump 29 = .ok (.iconst 0, 1) := by decide +kernel
theorem dX2_doJump_30 : decode cX2_doJump 30 = .ok (.iconst 2, 1) := by decide +kernel
theorem dX2_doJump_31 : decode cX2_doJump 31 = .ok (.iload_n 2, 1) := by decide +kernel
theorem dX2_doJump_32 : decode cX2_doJump 32 = .ok (.imul, 1) := by decide +kernel
theorem dX2_doJump_33 : decode cX2_doJump 33 = .ok (.invokevirtual 62, 3) := by decide +kernel
theorem dX2_doJump_36 : decode cX2_doJump 36 = .ok (.aload_n 0, 1) := by decide +kernel
theorem dX2_doJump_37 : decode cX2_doJump 37 = .ok (.iconst 2, 1) := by decide +kernel
theorem dX2_doJump_38 : decode cX2_doJump 38 = .ok (.invokevirtual 93, 3) := by decide +kernel
theorem dX2_doJump_41 : decode cX2_doJump 41 = .ok (.return_, 1) := by decide +kernel
set_option maxRecDepth 20000 in
theorem ggX2_isJumpTaken_X2_isSet : GoodIn wsX2_isJumpTaken wsX2_isSet := goodIn_r _ [5, 6, 7, 8, 9, 10] (by decide +kernel) (by decide +kernel)
set_option maxRecDepth 20000 in
theorem gX2_isJumpTaken_X2_isSet : GoodIn wsX2_isJumpTaken (wsV RX2 142 RX2 yX2_isSet wsX2_isSet) := goodIn_app (goodIn_of _ (by decide +kernel)) ggX2_isJumpTaken_X2_isSet
theorem dX2_isJumpTaken_0 : decode cX2_isJumpTaken 0 = .ok (.aload_n 0, 1) := by decide +kernel
theorem dX2_isJumpTaken_1 : decode cX2_isJumpTaken 1 = .ok (.iconst 4, 1) := by decide +kernel
theorem dX2_isJumpTaken_2 : decode cX2_isJumpTaken 2 = .ok (.invokevirtual 142, 3) := by decide +kernel
theorem dX2_isJumpTaken_5 : decode cX2_isJumpTaken 5 = .ok (.aload_n 0, 1) := by decide +kernel
theorem dX2_isJumpTaken_6 : decode cX2_isJumpTaken 6 = .ok (.sipush 256, 3) := by decide +kernel
theorem dX2_isJumpTaken_9 : decode cX2_isJumpTaken 9 = .ok (.invokevirtual 142, 3) := by decide +kernel
theorem dX2_isJumpTaken_12 : decode cX2_isJumpTaken 12 = .ok (.if_icmp .ne 7, 3) := by decide +kernel
theorem dX2_isJumpTaken_15 : decode cX2_isJumpTaken 15 = .ok (.iconst 1, 1) := by decide +kernel
theorem dX2_isJumpTaken_16 : decode cX2_isJumpTaken 16 = .ok (.goto 4, 3) := by decide +kernel
theorem dX2_isJumpTaken_19 : decode cX2_isJumpTaken 19 = .ok (.iconst 0, 1) := by decide +kernel
theorem dX2_isJumpTaken_20 : decode cX2_isJumpTaken 20 = .ok (.istore_n 2, 1) := by decide +kernel
theorem dX2_isJumpTaken_21 : decode cX2_isJumpTaken 21 = .ok (.iload_n 1, 1) := by decide +kernel
theorem dX2_isJumpTaken_22 : decode cX2_isJumpTaken 22 = .ok (.tableswitch 100 0 6 #[42, 56, 62, 76, 82, 88, 90], 42) := by decide +kernel
theorem dX2_isJumpTaken_64 : decode cX2_isJumpTaken 64 = .ok (.aload_n 0, 1) := by decide +kernel
theorem dX2_isJumpTaken_65 : decode cX2_isJumpTaken 65 = .ok (.iconst 2, 1) := by decide +kernel
theorem dX2_isJumpTaken_66 : decode cX2_isJumpTaken 66 = .ok (.invokevirtual 142, 3) := by decide +kernel
theorem dX2_isJumpTaken_69 : decode cX2_isJumpTaken 69 = .ok (.ifCond .ne 7, 3) := by decide +kernel
theorem dX2_isJumpTaken_72 : decode cX2_isJumpTaken 72 = .ok (.iconst 1, 1) := by decide +kernel
theorem dX2_isJumpTaken_73 : decode cX2_isJumpTaken 73 = .ok (.goto 4, 3) := by decide +kernel
theorem dX2_isJumpTaken_76 : decode cX2_isJumpTaken 76 = .ok (.iconst 0, 1) := by decide +kernel
theorem dX2_isJumpTaken_77 : decode cX2_isJumpTaken 77 = .ok (.ireturn, 1) := by decide +kernel
theorem dX2_isJumpTaken_78 : decode cX2_isJumpTaken 78 = .ok (.aload_n 0, 1) := by decide +kernel
theorem dX2_isJumpTaken_79 : decode cX2_isJumpTaken 79 = .ok (.iconst 2, 1) := by decide +kernel
theorem dX2_isJumpTaken_80 : decode cX2_isJumpTaken 80 = .ok (.invokevirtual 142, 3) := by decide +kernel
theorem dX2_isJumpTaken_83 : decode cX2_isJumpTaken 83 = .ok (.ireturn, 1) := by decide +kernel
theorem dX2_isJumpTaken_84 : decode cX2_isJumpTaken 84 = .ok (.aload_n 0, 1) := by decide +kernel
theorem dX2_isJumpTaken_85 : decode cX2_isJumpTaken 85 = .ok (.iconst 1, 1) := by decide +kernel
theorem dX2_isJumpTaken_86 : decode cX2_isJumpTaken 86 = .ok (.invokevirtual 142, 3) := by decide +kernel
theorem dX2_isJumpTaken_89 : decode cX2_isJumpTaken 89 = .ok (.ifCond .ne 7, 3) := by decide +kernel
theorem dX2_isJumpTaken_92 : decode cX2_isJumpTaken 92 = .ok (.iconst 1, 1) := by decide +kernel
theorem dX2_isJumpTaken_93 : decode cX2_isJumpTaken 93 = .ok (.goto 4, 3) := by decide +kernel
theorem dX2_isJumpTaken_96 : decode cX2_isJumpTaken 96 = .ok (.iconst 0, 1) := by decide +kernel
theorem dX2_isJumpTaken_97 : decode cX2_isJumpTaken 97 = .ok (.ireturn, 1) := by decide +kernel
theorem dX2_isJumpTaken_98 : decode cX2_isJumpTaken 98 = .ok (.aload_n 0, 1) := by decide +kernel
theorem dX2_isJumpTaken_99 : decode cX2_isJumpTaken 99 = .ok (.iconst 1, 1) := by decide +kernel
theorem dX2_isJumpTaken_100 : decode cX2_isJumpTaken 100 = .ok (.invokevirtual 142, 3) := by decide +kernel
theorem dX2_isJumpTaken_103 : decode cX2_isJumpTaken 103 = .ok (.ireturn, 1) := by decide +kernel
theorem dX2_isJumpTaken_104 : decode cX2_isJumpTaken 104 = .ok (.aload_n 0, 1) := by decide +kernel
theorem dX2_isJumpTaken_105 : decode cX2_isJumpTaken 105 = .ok (.iconst 4, 1) := by decide +kernel
theorem dX2_isJumpTaken_106 : decode cX2_isJumpTaken 106 = .ok (.invokevirtual 142, 3) := by decide +kernel
theorem dX2_isJumpTaken_109 : decode cX2_isJumpTaken 109 = .ok (.ireturn, 1) := by decide +kernel
theorem dX2_isJumpTaken_110 : decode cX2_isJumpTaken 110 = .ok (.iload_n 2, 1) := by decide +kernel
theorem dX2_isJumpTaken_111 : decode cX2_isJumpTaken 111 = .ok (.ireturn, 1) := by decide +kernel
theorem dX2_isJumpTaken_112 : decode cX2_isJumpTaken 112 = .ok (.iload_n 2, 1) := by decide +kernel
theorem dX2_isJumpTaken_113 : decode cX2_isJumpTaken 113 = .ok (.ifCond .ne 7, 3) := by decide +kernel
theorem dX2_isJumpTaken_116 : decode cX2_isJumpTaken 116 = .ok (.iconst 1, 1) := by decide +kernel
theorem dX2_isJumpTaken_117 : decode cX2_isJumpTaken 117 = .ok (.goto 4, 3) := by decide +kernel
theorem dX2_isJumpTaken_120 : decode cX2_isJumpTaken 120 = .ok (.iconst 0, 1) := by decide +kernel
theorem dX2_isJumpTaken_121 : decode cX2_isJumpTaken 121 = .ok (.ireturn, 1) := by decide +kernel
theorem dX2_isJumpTaken_122 : decode cX2_isJumpTaken 122 = .ok (.iconst 1, 1) := by decide +kernel
theorem dX2_isJumpTaken_123 : decode cX2_isJumpTaken 123 = .ok (.ireturn, 1) := by decide +kernel
set_option maxRecDepth 20000 in
theorem ggX2_returnFromInterrupt_X2_pop : GoodIn wsX2_returnFromInterrupt wsX2_pop := goodIn_r _ [5, 6, 7, 8, 9, 10, 11, 12, 13, 14, 15, 16, 17, 18, 19, 20, 21, 22, 23, 24, 25, 26, 27, 28, 29, 30, 31, 32, 33, 34, 35, 36, 4, 37, 38, 39, 40, 41, 42, 43, 50, 51, 52, 53, 54, 55, 56, 57, 58, 59, 60, 61] (by decide +kernel) (by decide +kernel)
set_option maxRecDepth 20000 in
theorem gX2_returnFromInterrupt_X2_pop : GoodIn wsX2_returnFromInterrupt (wsV RX2 145 RX2 yX2_pop wsX2_pop) := goodIn_app (goodIn_of _ (by decide +kernel)) ggX2_returnFromInterrupt_X2_pop
set_option maxRecDepth 20000 in
theorem ggX2_returnFromInterrupt_X2_setRegister : GoodIn wsX2_returnFromInterrupt wsX2_setRegister := goodIn_r _ [41, 7, 42, 43, 50, 51, 52, 53] (by decide +kernel) (by decide +kernel)
set_option maxRecDepth 20000 in
theorem gX2_returnFromInterrupt_X2_setRegister : GoodIn wsX2_returnFromInterrupt (wsV RX2 44 RX2 yX2_setRegister wsX2_setRegister) := goodIn_app (goodIn_of _ (by decide +kernel)) ggX2_returnFromInterrupt_X2_setRegister
set_option maxRecDepth 20000 in
theorem ggX2_returnFromInterrupt_X2_spend : GoodIn wsX2_returnFromInterrupt wsX2_spend := goodIn_r _ [47, 48, 49, 50, 51, 52, 53] (by decide +kernel) (by decide +kernel)
set_option maxRecDepth 20000 in
theorem gX2_returnFromInterrupt_X2_spend : GoodIn wsX2_returnFromInterrupt (wsV RX2 93 RX2 yX2_spend wsX2_spend) := goodIn_app (goodIn_of _ (by decide +kernel)) ggX2_returnFromInterrupt_X2_spend
theorem dX2_returnFromInterrupt_0 : decode cX2_returnFromInterrupt 0 = .ok (.aload_n 0, 1) := by decide +kernel
theorem dX2_returnFromInterrupt_1 : decode cX2_returnFromInterrupt 1 = .ok (.iconst 2, 1) := by decide +kernel
theorem dX2_returnFromInterrupt_2 : decode cX2_returnFromInterrupt 2 = .ok (.aload_n 0, 1) := by decide +kernel
theorem dX2_returnFromInterrupt_3 : decode cX2_returnFromInterrupt 3 = .ok (.invokevirtual 145, 3) := by decide +kernel
theorem dX2_returnFromInterrupt_6 : decode cX2_returnFromInterrupt 6 = .ok (.invokevirtual 44, 3) := by decide +kernel
theorem dX2_returnFromInterrupt_9 : decode cX2_returnFromInterrupt 9 = .ok (.aload_n 0, 1) := by decide +kernel
theorem dX2_returnFromInterrupt_10 : decode cX2_returnFromInterrupt 10 = .ok (.iconst 0, 1) := by decide +kernel
theorem dX2_returnFromInterrupt_11 : decode cX2_returnFromInterrupt 11 = .ok (.aload_n 0, 1) := by decide +kernel
theorem dX2_returnFromInterrupt_12 : decode cX2_returnFromInterrupt 12 = .ok (.invokevirtual 145, 3) := by decide +kernel
theorem dX2_returnFromInterrupt_15 : decode cX2_returnFromInterrupt 15 = .ok (.invokevirtual 44, 3) := by decide +kernel
theorem dX2_returnFromInterrupt_18 : decode cX2_returnFromInterrupt 18 = .ok (.aload_n 0, 1) := by decide +kernel
theorem dX2_returnFromInterrupt_19 : decode cX2_returnFromInterrupt 19 = .ok (.iconst 5, 1) := by decide +kernel
theorem dX2_returnFromInterrupt_20 : decode cX2_returnFromInterrupt 20 = .ok (.invokevirtual 93, 3) := by decide +kernel
theorem dX2_returnFromInterrupt_23 : decode cX2_returnFromInterrupt 23 = .ok (.return_, 1) := by decide +kernel
set_option maxRecDepth 20000 in
theorem ggX2_sourcePlace_X2_indexedPlace : GoodIn wsX2_sourcePlace wsX2_indexedPlace := goodIn_r _ [9, 4, 10, 2, 11, 12, 13, 14, 15, 16, 17, 18, 19, 20, 21, 22, 23, 24, 25, 26, 27, 28, 29, 30, 31, 32, 33, 34, 35, 36, 37, 38, 39, 8, 40, 41, 42, 43, 44, 45, 46, 47, 48, 49, 50, 51, 52, 53, 54, 55, 56, 57] (by decide +kernel) (by decide +kernel)
set_option maxRecDepth 20000 in
theorem gX2_sourcePlace_X2_indexedPlace : GoodIn wsX2_sourcePlace (wsV RX2 150 RX2 yX2_indexedPlace wsX2_indexedPlace) := goodIn_app (goodIn_of _ (by decide +kernel)) ggX2_sourcePlace_X2_indexedPlace
set_option maxRecDepth 20000 in
theorem ggX2_sourcePlace_X2_addToRegister : GoodIn wsX2_sourcePlace wsX2_addToRegister := goodIn_r _ [40, 4, 41, 42, 43, 8, 44, 45, 2, 46, 47, 48, 49] (by decide +kernel) (by decide +kernel)
set_option maxRecDepth 20000 in
theorem gX2_sourcePlace_X2_addToRegister : GoodIn wsX2_sourcePlace (wsV RX2 62 RX2 yX2_addToRegister wsX2_addToRegister) := goodIn_app (goodIn_of _ (by decide +kernel)) ggX2_sourcePlace_X2_addToRegister
theorem dX2_sourcePlace_0 : decode cX2_sourcePlace 0 = .ok (.iload_n 1, 1) := by decide +kernel
theorem dX2_sourcePlace_1 : decode cX2_sourcePlace 1 = .ok (.iconst 4, 1) := by decide +kernel
theorem dX2_sourcePlace_2 : decode cX2_sourcePlace 2 = .ok (.ishr, 1) := by decide +kernel
theorem dX2_sourcePlace_3 : decode cX2_sourcePlace 3 = .ok (.iconst 3, 1) := by decide +kernel
theorem dX2_sourcePlace_4 : decode cX2_sourcePlace 4 = .ok (.iand, 1) := by decide +kernel
theorem dX2_sourcePlace_5 : decode cX2_sourcePlace 5 = .ok (.istore_n 3, 1) := by decide +kernel
theorem dX2_sourcePlace_6 : decode cX2_sourcePlace 6 = .ok (.iload_n 2, 1) := by decide +kernel
theorem dX2_sourcePlace_7 : decode cX2_sourcePlace 7 = .ok (.iconst 3, 1) := by decide +kernel
theorem dX2_sourcePlace_8 : decode cX2_sourcePlace 8 = .ok (.if_icmp .ne 18, 3) := by decide +kernel
theorem dX2_sourcePlace_11 : decode cX2_sourcePlace 11 = .ok (.ldc 148, 2) := by decide +kernel
theorem dX2_sourcePlace_13 : decode cX2_sourcePlace 13 = .ok (.iload_n 3, 1) := by decide +kernel
theorem dX2_sourcePlace_14 : decode cX2_sourcePlace 14 = .ok (.iconst 3, 1) := by decide +kernel
theorem dX2_sourcePlace_15 : decode cX2_sourcePlace 15 = .ok (.if_icmp .ne 8, 3) := by decide +kernel
theorem dX2_sourcePlace_18 : decode cX2_sourcePlace 18 = .ok (.ldc 149, 2) := by decide +kernel
theorem dX2_sourcePlace_20 : decode cX2_sourcePlace 20 = .ok (.goto 4, 3) := by decide +kernel
theorem dX2_sourcePlace_23 : decode cX2_sourcePlace 23 = .ok (.iload_n 3, 1) := by decide +kernel
theorem dX2_sourcePlace_24 : decode cX2_sourcePlace 24 = .ok (.iadd, 1) := by decide +kernel
theorem dX2_sourcePlace_25 : decode cX2_sourcePlace 25 = .ok (.ireturn, 1) := by decide +kernel
theorem dX2_sourcePlace_26 : decode cX2_sourcePlace 26 = .ok (.iload_n 3, 1) := by decide +kernel
theorem dX2_sourcePlace_27 : decode cX2_sourcePlace 27 = .ok (.ifCond .ne 8, 3) := by decide +kernel
theorem dX2_sourcePlace_30 : decode cX2_sourcePlace 30 = .ok (.ldc 48, 2) := by decide +kernel
theorem dX2_sourcePlace_32 : decode cX2_sourcePlace 32 = .ok (.iload_n 2, 1) := by decide +kernel
theorem dX2_sourcePlace_33 : decode cX2_sourcePlace 33 = .ok (.iadd, 1) := by decide +kernel
theorem dX2_sourcePlace_34 : decode cX2_sourcePlace 34 = .ok (.ireturn, 1) := by decide +kernel
theorem dX2_sourcePlace_35 : decode cX2_sourcePlace 35 = .ok (.iload_n 3, 1) := by decide +kernel
theorem dX2_sourcePlace_36 : decode cX2_sourcePlace 36 = .ok (.iconst 1, 1) := by decide +kernel
theorem dX2_sourcePlace_37 : decode cX2_sourcePlace 37 = .ok (.if_icmp .ne 9, 3) := by decide +kernel
theorem dX2_sourcePlace_40 : decode cX2_sourcePlace 40 = .ok (.aload_n 0, 1) := by decide +kernel
theorem dX2_sourcePlace_41 : decode cX2_sourcePlace 41 = .ok (.iload_n 2, 1) := by decide +kernel
theorem dX2_sourcePlace_42 : decode cX2_sourcePlace 42 = .ok (.invokevirtual 150, 3) := by decide +kernel
theorem dX2_sourcePlace_45 : decode cX2_sourcePlace 45 = .ok (.ireturn, 1) := by decide +kernel
theorem dX2_sourcePlace_46 : decode cX2_sourcePlace 46 = .ok (.iload_n 2, 1) := by decide +kernel
theorem dX2_sourcePlace_47 : decode cX2_sourcePlace 47 = .ok (.iconst 2, 1) := by decide +kernel
theorem dX2_sourcePlace_48 : decode cX2_sourcePlace 48 = .ok (.if_icmp .ne 18, 3) := by decide +kernel
theorem dX2_sourcePlace_51 : decode cX2_sourcePlace 51 = .ok (.ldc 148, 2) := by decide +kernel
theorem dX2_sourcePlace_53 : decode cX2_sourcePlace 53 = .ok (.iload_n 3, 1) := by decide +kernel
theorem dX2_sourcePlace_54 : decode cX2_sourcePlace 54 = .ok (.iconst 2, 1) := by decide +kernel
theorem dX2_sourcePlace_55 : decode cX2_sourcePlace 55 = .ok (.if_icmp .ne 7, 3) := by decide +kernel
theorem dX2_sourcePlace_58 : decode cX2_sourcePlace 58 = .ok (.iconst 4, 1) := by decide +kernel
theorem dX2_sourcePlace_59 : decode cX2_sourcePlace 59 = .ok (.goto 5, 3) := by decide +kernel
theorem dX2_sourcePlace_62 : decode cX2_sourcePlace 62 = .ok (.bipush 8, 2) := by decide +kernel
theorem dX2_sourcePlace_64 : decode cX2_sourcePlace 64 = .ok (.iadd, 1) := by decide +kernel
theorem dX2_sourcePlace_65 : decode cX2_sourcePlace 65 = .ok (.ireturn, 1) := by decide +kernel
theorem dX2_sourcePlace_66 : decode cX2_sourcePlace 66 = .ok (.aload_n 0, 1) := by decide +kernel
theorem dX2_sourcePlace_67 : decode cX2_sourcePlace 67 = .ok (.getfield 16, 3) := by decide +kernel
theorem dX2_sourcePlace_70 : decode cX2_sourcePlace 70 = .ok (.iload_n 2, 1) := by decide +kernel
theorem dX2_sourcePlace_71 : decode cX2_sourcePlace 71 = .ok (.iaload, 1) := by decide +kernel
theorem dX2_sourcePlace_72 : decode cX2_sourcePlace 72 = .ok (.istore 4, 2) := by decide +kernel
theorem dX2_sourcePlace_74 : decode cX2_sourcePlace 74 = .ok (.iload_n 3, 1) := by decide +kernel
theorem dX2_sourcePlace_75 : decode cX2_sourcePlace 75 = .ok (.iconst 3, 1) := by decide +kernel
theorem dX2_sourcePlace_76 : decode cX2_sourcePlace 76 = .ok (.if_icmp .ne 41, 3) := by decide +kernel
theorem dX2_sourcePlace_79 : decode cX2_sourcePlace 79 = .ok (.iload_n 1, 1) := by decide +kernel
theorem dX2_sourcePlace_80 : decode cX2_sourcePlace 80 = .ok (.bipush 64, 2) := by decide +kernel
theorem dX2_sourcePlace_82 : decode cX2_sourcePlace 82 = .ok (.iand, 1) := by decide +kernel
theorem dX2_sourcePlace_83 : decode cX2_sourcePlace 83 = .ok (.ifCond .eq 16, 3) := by decide +kernel
theorem dX2_sourcePlace_86 : decode cX2_sourcePlace 86 = .ok (.iload_n 2, 1) := by decide +kernel
theorem dX2_sourcePlace_87 : decode cX2_sourcePlace 87 = .ok (.ifCond .eq 12, 3) := by decide +kernel
theorem dX2_sourcePlace_90 : decode cX2_sourcePlace 90 = .ok (.iload_n 2, 1) := by decide +kernel
theorem dX2_sourcePlace_91 : decode cX2_sourcePlace 91 = .ok (.iconst 1, 1) := by decide +kernel
theorem dX2_sourcePlace_92 : decode cX2_sourcePlace 92 = .ok (.if_icmp .eq 7, 3) := by decide +kernel
theorem dX2_sourcePlace_95 : decode cX2_sourcePlace 95 = .ok (.iconst 1, 1) := by decide +kernel
theorem dX2_sourcePlace_96 : decode cX2_sourcePlace 96 = .ok (.goto 4, 3) := by decide +kernel
theorem dX2_sourcePlace_99 : decode cX2_sourcePlace 99 = .ok (.iconst 0, 1) := by decide +kernel
theorem dX2_sourcePlace_100 : decode cX2_sourcePlace 100 = .ok (.istore 5, 2) := by decide +kernel
theorem dX2_sourcePlace_102 : decode cX2_sourcePlace 102 = .ok (.aload_n 0, 1) := by decide +kernel
theorem dX2_sourcePlace_103 : decode cX2_sourcePlace 103 = .ok (.iload_n 2, 1) := by decide +kernel
theorem dX2_sourcePlace_104 : decode cX2_sourcePlace 104 = .ok (.iload 5, 2) := by decide +kernel
theorem dX2_sourcePlace_106 : decode cX2_sourcePlace 106 = .ok (.ifCond .eq 7, 3) := by decide +kernel
theorem dX2_sourcePlace_109 : decode cX2_sourcePlace 109 = .ok (.iconst 1, 1) := by decide +kernel
theorem dX2_sourcePlace_110 : decode cX2_sourcePlace 110 = .ok (.goto 4, 3) := by decide +kernel
theorem dX2_sourcePlace_113 : decode cX2_sourcePlace 113 = .ok (.iconst 2, 1) := by decide +kernel
theorem dX2_sourcePlace_114 : decode cX2_sourcePlace 114 = .ok (.invokevirtual 62, 3) := by decide +kernel
theorem dX2_sourcePlace_117 : decode cX2_sourcePlace 117 = .ok (.iload 4, 2) := by decide +kernel
theorem dX2_sourcePlace_119 : decode cX2_sourcePlace 119 = .ok (.ireturn, 1) := by decide +kernel
set_option maxRecDepth 20000 in
theorem ggX2_destinationPlace_X2_indexedPlace : GoodIn wsX2_destinationPlace wsX2_indexedPlace := goodIn_r _ [6, 7, 8, 9, 10, 11, 12, 13, 14, 15, 16, 17, 18, 19, 20, 21, 22, 23, 24, 25, 26, 27, 28, 29, 30, 31, 32, 33, 34, 35, 36, 37, 38, 5, 39, 40, 41, 42, 43, 44, 45, 46, 47, 48, 49, 50, 51, 52, 53, 54, 55, 56] (by decide +kernel) (by decide +kernel)
set_option maxRecDepth 20000 in
theorem gX2_destinationPlace_X2_indexedPlace : GoodIn wsX2_destinationPlace (wsV RX2 150 RX2 yX2_indexedPlace wsX2_indexedPlace) := goodIn_app (goodIn_of _ (by decide +kernel)) ggX2_destinationPlace_X2_indexedPlace
theorem dX2_destinationPlace_0 : decode cX2_destinationPlace 0 = .ok (.iload_n 1, 1) := by decide +kernel
theorem dX2_destinationPlace_1 : decode cX2_destinationPlace 1 = .ok (.bipush 15, 2) := by decide +kernel
theorem dX2_destinationPlace_3 : decode cX2_destinationPlace 3 = .ok (.iand, 1) := by decide +kernel
theorem dX2_destinationPlace_4 : decode cX2_destinationPlace 4 = .ok (.istore_n 2, 1) := by decide +kernel
theorem dX2_destinationPlace_5 : decode cX2_destinationPlace 5 = .ok (.iload_n 1, 1) := by decide +kernel
theorem dX2_destinationPlace_6 : decode cX2_destinationPlace 6 = .ok (.sipush 128, 3) := by decide +kernel
theorem dX2_destinationPlace_9 : decode cX2_destinationPlace 9 = .ok (.iand, 1) := by decide +kernel
theorem dX2_destinationPlace_10 : decode cX2_destinationPlace 10 = .ok (.ifCond .ne 8, 3) := by decide +kernel
theorem dX2_destinationPlace_13 : decode cX2_destinationPlace 13 = .ok (.ldc 48, 2) := by decide +kernel
theorem dX2_destinationPlace_15 : decode cX2_destinationPlace 15 = .ok (.iload_n 2, 1) := by decide +kernel
theorem dX2_destinationPlace_16 : decode cX2_destinationPlace 16 = .ok (.iadd, 1) := by decide +kernel
theorem dX2_destinationPlace_17 : decode cX2_destinationPlace 17 = .ok (.ireturn, 1) := by decide +kernel
theorem dX2_destinationPlace_18 : decode cX2_destinationPlace 18 = .ok (.aload_n 0, 1) := by decide +kernel
theorem dX2_destinationPlace_19 : decode cX2_destinationPlace 19 = .ok (.iload_n 2, 1) := by decide +kernel
theorem dX2_destinationPlace_20 : decode cX2_destinationPlace 20 = .ok (.invokevirtual 150, 3) := by decide +kernel
theorem dX2_destinationPlace_23 : decode cX2_destinationPlace 23 = .ok (.ireturn, 1) := by decide +kernel
set_option maxRecDepth 20000 in
theorem ggX2_indexedPlace_X0_wordAt : GoodIn wsX2_indexedPlace wsX0_wordAt := goodIn_r _ [7, 8, 9, 10, 11, 12, 5, 13, 14, 15, 16, 17, 18, 19, 20, 21, 22, 23, 24, 25, 26, 27, 28, 29, 44, 45, 46, 47, 48, 49, 50, 51] (by decide +kernel) (by decide +kernel)
set_option maxRecDepth 20000 in
theorem gX2_indexedPlace_X0_wordAt_n40 : GoodIn wsX2_indexedPlace (wsX0_wordAt) := ggX2_indexedPlace_X0_wordAt
set_option maxRecDepth 20000 in
theorem ggX2_indexedPlace_X2_addToRegister : GoodIn wsX2_indexedPlace wsX2_addToRegister := goodIn_r _ [34, 1, 35, 36, 37, 33, 38, 39, 3, 40, 41, 42, 43] (by decide +kernel) (by decide +kernel)
set_option maxRecDepth 20000 in
theorem gX2_indexedPlace_X2_addToRegister : GoodIn wsX2_indexedPlace (wsV RX2 62 RX2 yX2_addToRegister wsX2_addToRegister) := goodIn_app (goodIn_of _ (by decide +kernel)) ggX2_indexedPlace_X2_addToRegister
theorem dX2_indexedPlace_0 : decode cX2_indexedPlace 0 = .ok (.iload_n 1, 1) := by decide +kernel
theorem dX2_indexedPlace_1 : decode cX2_indexedPlace 1 = .ok (.iconst 2, 1) := by decide +kernel
theorem dX2_indexedPlace_2 : decode cX2_indexedPlace 2 = .ok (.if_icmp .ne 7, 3) := by decide +kernel
theorem dX2_indexedPlace_5 : decode cX2_indexedPlace 5 = .ok (.iconst 0, 1) := by decide +kernel
theorem dX2_indexedPlace_6 : decode cX2_indexedPlace 6 = .ok (.goto 12, 3) := by decide +kernel
theorem dX2_indexedPlace_9 : decode cX2_indexedPlace 9 = .ok (.aload_n 0, 1) := by decide +kernel
theorem dX2_indexedPlace_10 : decode cX2_indexedPlace 10 = .ok (.getfield 16, 3) := by decide +kernel
theorem dX2_indexedPlace_13 : decode cX2_indexedPlace 13 = .ok (.iload_n 1, 1) := by decide +kernel
theorem dX2_indexedPlace_14 : decode cX2_indexedPlace 14 = .ok (.bipush 15, 2) := by decide +kernel
theorem dX2_indexedPlace_16 : decode cX2_indexedPlace 16 = .ok (.iand, 1) := by decide +kernel
theorem dX2_indexedPlace_17 : decode cX2_indexedPlace 17 = .ok (.iaload, 1) := by decide +kernel
theorem dX2_indexedPlace_18 : decode cX2_indexedPlace 18 = .ok (.istore_n 2, 1) := by decide +kernel
theorem dX2_indexedPlace_19 : decode cX2_indexedPlace 19 = .ok (.aload_n 0, 1) := by decide +kernel
theorem dX2_indexedPlace_20 : decode cX2_indexedPlace 20 = .ok (.getfield 12, 3) := by decide +kernel
theorem dX2_indexedPlace_23 : decode cX2_indexedPlace 23 = .ok (.aload_n 0, 1) := by decide +kernel
theorem dX2_indexedPlace_24 : decode cX2_indexedPlace 24 = .ok (.getfield 16, 3) := by decide +kernel
theorem dX2_indexedPlace_27 : decode cX2_indexedPlace 27 = .ok (.iconst 0, 1) := by decide +kernel
theorem dX2_indexedPlace_28 : decode cX2_indexedPlace 28 = .ok (.iaload, 1) := by decide +kernel
theorem dX2_indexedPlace_29 : decode cX2_indexedPlace 29 = .ok (.invokevirtual 40, 3) := by decide +kernel
theorem dX2_indexedPlace_32 : decode cX2_indexedPlace 32 = .ok (.istore_n 3, 1) := by decide +kernel
theorem dX2_indexedPlace_33 : decode cX2_indexedPlace 33 = .ok (.aload_n 0, 1) := by decide +kernel
theorem dX2_indexedPlace_34 : decode cX2_indexedPlace 34 = .ok (.iconst 0, 1) := by decide +kernel
theorem dX2_indexedPlace_35 : decode cX2_indexedPlace 35 = .ok (.iconst 2, 1) := by decide +kernel
theorem dX2_indexedPlace_36 : decode cX2_indexedPlace 36 = .ok (.invokevirtual 62, 3) := by decide +kernel
theorem dX2_indexedPlace_39 : decode cX2_indexedPlace 39 = .ok (.iload_n 3, 1) := by decide +kernel
theorem dX2_indexedPlace_40 : decode cX2_indexedPlace 40 = .ok (.iload_n 2, 1) := by decide +kernel
theorem dX2_indexedPlace_41 : decode cX2_indexedPlace 41 = .ok (.iadd, 1) := by decide +kernel
theorem dX2_indexedPlace_42 : decode cX2_indexedPlace 42 = .ok (.ldc 149, 2) := by decide +kernel
theorem dX2_indexedPlace_44 : decode cX2_indexedPlace 44 = .ok (.iand, 1) := by decide +kernel
theorem dX2_indexedPlace_45 : decode cX2_indexedPlace 45 = .ok (.ireturn, 1) := by decide +kernel
set_option maxRecDepth 20000 in
theorem ggX2_valueAt_X0_byteAt : GoodIn wsX2_valueAt wsX0_byteAt := goodIn_r _ [8, 9, 10, 11, 6, 12, 13, 14, 15, 16, 17, 18, 19, 20, 21, 22, 23, 24, 25, 26, 27, 28, 29, 30, 31, 32, 33, 34, 39, 40, 41, 42, 43, 44, 45, 46] (by decide +kernel) (by decide +kernel)
set_option maxRecDepth 20000 in
theorem gX2_valueAt_X0_byteAt_n52 : GoodIn wsX2_valueAt (wsX0_byteAt) := ggX2_valueAt_X0_byteAt
set_option maxRecDepth 20000 in
theorem ggX2_valueAt_X0_wordAt : GoodIn wsX2_valueAt wsX0_wordAt := goodIn_r _ [12, 13, 14, 15, 16, 17, 6, 18, 19, 20, 21, 22, 23, 24, 25, 26, 27, 28, 29, 30, 31, 32, 33, 34, 39, 40, 41, 42, 43, 44, 45, 46] (by decide +kernel) (by decide +kernel)
set_option maxRecDepth 20000 in
theorem gX2_valueAt_X0_wordAt_n40 : GoodIn wsX2_valueAt (wsX0_wordAt) := ggX2_valueAt_X0_wordAt
theorem dX2_valueAt_0 : decode cX2_valueAt 0 = .ok (.iload_n 1, 1) := by decide +kernel
theorem dX2_valueAt_1 : decode cX2_valueAt 1 = .ok (.ldc 48, 2) := by decide +kernel
theorem dX2_valueAt_3 : decode cX2_valueAt 3 = .ok (.if_icmp .ge 27, 3) := by decide +kernel
theorem dX2_valueAt_6 : decode cX2_valueAt 6 = .ok (.iload_n 2, 1) := by decide +kernel
theorem dX2_valueAt_7 : decode cX2_valueAt 7 = .ok (.ifCond .eq 14, 3) := by decide +kernel
theorem dX2_valueAt_10 : decode cX2_valueAt 10 = .ok (.aload_n 0, 1) := by decide +kernel
theorem dX2_valueAt_11 : decode cX2_valueAt 11 = .ok (.getfield 12, 3) := by decide +kernel
theorem dX2_valueAt_14 : decode cX2_valueAt 14 = .ok (.iload_n 1, 1) := by decide +kernel
theorem dX2_valueAt_15 : decode cX2_valueAt 15 = .ok (.invokevirtual 52, 3) := by decide +kernel
theorem dX2_valueAt_18 : decode cX2_valueAt 18 = .ok (.goto 11, 3) := by decide +kernel
theorem dX2_valueAt_21 : decode cX2_valueAt 21 = .ok (.aload_n 0, 1) := by decide +kernel
theorem dX2_valueAt_22 : decode cX2_valueAt 22 = .ok (.getfield 12, 3) := by decide +kernel
theorem dX2_valueAt_25 : decode cX2_valueAt 25 = .ok (.iload_n 1, 1) := by decide +kernel
theorem dX2_valueAt_26 : decode cX2_valueAt 26 = .ok (.invokevirtual 40, 3) := by decide +kernel
theorem dX2_valueAt_29 : decode cX2_valueAt 29 = .ok (.ireturn, 1) := by decide +kernel
theorem dX2_valueAt_30 : decode cX2_valueAt 30 = .ok (.iload_n 1, 1) := by decide +kernel
theorem dX2_valueAt_31 : decode cX2_valueAt 31 = .ok (.ldc 148, 2) := by decide +kernel
theorem dX2_valueAt_33 : decode cX2_valueAt 33 = .ok (.if_icmp .ge 15, 3) := by decide +kernel
theorem dX2_valueAt_36 : decode cX2_valueAt 36 = .ok (.aload_n 0, 1) := by decide +kernel
theorem dX2_valueAt_37 : decode cX2_valueAt 37 = .ok (.getfield 16, 3) := by decide +kernel
theorem dX2_valueAt_40 : decode cX2_valueAt 40 = .ok (.iload_n 1, 1) := by decide +kernel
theorem dX2_valueAt_41 : decode cX2_valueAt 41 = .ok (.bipush 15, 2) := by decide +kernel
theorem dX2_valueAt_43 : decode cX2_valueAt 43 = .ok (.iand, 1) := by decide +kernel
theorem dX2_valueAt_44 : decode cX2_valueAt 44 = .ok (.iaload, 1) := by decide +kernel
theorem dX2_valueAt_45 : decode cX2_valueAt 45 = .ok (.goto 7, 3) := by decide +kernel
theorem dX2_valueAt_48 : decode cX2_valueAt 48 = .ok (.iload_n 1, 1) := by decide +kernel
theorem dX2_valueAt_49 : decode cX2_valueAt 49 = .ok (.ldc 148, 2) := by decide +kernel
theorem dX2_valueAt_51 : decode cX2_valueAt 51 = .ok (.isub, 1) := by decide +kernel
theorem dX2_valueAt_52 : decode cX2_valueAt 52 = .ok (.istore_n 3, 1) := by decide +kernel
theorem dX2_valueAt_53 : decode cX2_valueAt 53 = .ok (.iload_n 2, 1) := by decide +kernel
theorem dX2_valueAt_54 : decode cX2_valueAt 54 = .ok (.ifCond .eq 11, 3) := by decide +kernel
theorem dX2_valueAt_57 : decode cX2_valueAt 57 = .ok (.iload_n 3, 1) := by decide +kernel
theorem dX2_valueAt_58 : decode cX2_valueAt 58 = .ok (.sipush 255, 3) := by decide +kernel
theorem dX2_valueAt_61 : decode cX2_valueAt 61 = .ok (.iand, 1) := by decide +kernel
theorem dX2_valueAt_62 : decode cX2_valueAt 62 = .ok (.goto 4, 3) := by decide +kernel
theorem dX2_valueAt_65 : decode cX2_valueAt 65 = .ok (.iload_n 3, 1) := by decide +kernel
theorem dX2_valueAt_66 : decode cX2_valueAt 66 = .ok (.ireturn, 1) := by decide +kernel
set_option maxRecDepth 20000 in
theorem ggX2_put_X2_setRegister : GoodIn wsX2_put wsX2_setRegister := goodIn_r _ [8, 9, 10, 11, 71, 72, 73, 74] (by decide +kernel) (by decide +kernel)
set_option maxRecDepth 20000 in
theorem gX2_put_X2_setRegister : GoodIn wsX2_put (wsV RX2 44 RX2 yX2_setRegister wsX2_setRegister) := goodIn_app (goodIn_of _ (by decide +kernel)) ggX2_put_X2_setRegister
set_option maxRecDepth 20000 in
theorem ggX2_put_X0_writeByte : GoodIn wsX2_put wsX0_writeByte := goodIn_r _ [15, 16, 17, 18, 13, 19, 20, 21, 22, 23, 24, 25, 26, 27, 28, 29, 30, 31, 32, 33, 34, 35, 36, 37, 38, 39, 40, 41, 42, 43, 44, 45, 46, 47, 48, 49, 50, 51, 52, 53, 54, 55, 56, 57, 58, 59, 60, 61, 62, 63, 64, 65, 66, 67, 75, 76, 77, 78, 79, 80, 81, 82] (by decide +kernel) (by decide +kernel)
set_option maxRecDepth 20000 in
theorem gX2_put_X0_writeByte_n153 : GoodIn wsX2_put (wsX0_writeByte) := ggX2_put_X0_writeByte
set_option maxRecDepth 20000 in
theorem ggX2_put_X0_writeWord : GoodIn wsX2_put wsX0_writeWord := goodIn_r _ [70, 16, 17, 18, 13, 19, 20, 32, 33, 34, 56, 36, 57, 58, 59, 60, 47, 48, 49, 39, 40, 41, 42, 43, 61, 62, 63, 64, 65, 66, 67, 50, 51, 52, 53, 30, 54, 55, 44, 45, 46, 31, 75, 76, 77, 78, 79, 80, 81, 82] (by decide +kernel) (by decide +kernel)
set_option maxRecDepth 20000 in
theorem gX2_put_X0_writeWord_n156 : GoodIn wsX2_put (wsX0_writeWord) := ggX2_put_X0_writeWord
end
section
theorem dX2_put_0 : decode cX2_put 0 = .ok (.iload_n 1, 1) := by decide +kernel
theorem dX2_put_1 : decode cX2_put 1 = .ok (.ldc 148, 2) := by decide +kernel
theorem dX2_put_3 : decode cX2_put 3 = .ok (.if_icmp .lt 4, 3) := by decide +kernel
theorem dX2_put_6 : decode cX2_put 6 = .ok (.return_, 1) := by decide +kernel
theorem dX2_put_7 : decode cX2_put 7 = .ok (.iload_n 1, 1) := by decide +kernel
theorem dX2_put_8 : decode cX2_put 8 = .ok (.ldc 48, 2) := by decide +kernel
theorem dX2_put_10 : decode cX2_put 10 = .ok (.if_icmp .lt 15, 3) := by decide +kernel
theorem dX2_put_13 : decode cX2_put 13 = .ok (.aload_n 0, 1) := by decide +kernel
theorem dX2_put_14 : decode cX2_put 14 = .ok (.iload_n 1, 1) := by decide +kernel
theorem dX2_put_15 : decode cX2_put 15 = .ok (.bipush 15, 2) := by decide +kernel
theorem dX2_put_17 : decode cX2_put 17 = .ok (.iand, 1) := by decide +kernel
theorem dX2_put_18 : decode cX2_put 18 = .ok (.iload_n 2, 1) := by decide +kernel
theorem dX2_put_19 : decode cX2_put 19 = .ok (.invokevirtual 44, 3) := by decide +kernel
theorem dX2_put_22 : decode cX2_put 22 = .ok (.goto 28, 3) := by decide +kernel
theorem dX2_put_25 : decode cX2_put 25 = .ok (.iload_n 3, 1) := by decide +kernel
theorem dX2_put_26 : decode cX2_put 26 = .ok (.ifCond .eq 15, 3) := by decide +kernel
theorem dX2_put_29 : decode cX2_put 29 = .ok (.aload_n 0, 1) := by decide +kernel
theorem dX2_put_30 : decode cX2_put 30 = .ok (.getfield 12, 3) := by decide +kernel
theorem dX2_put_33 : decode cX2_put 33 = .ok (.iload_n 1, 1) := by decide +kernel
theorem dX2_put_34 : decode cX2_put 34 = .ok (.iload_n 2, 1) := by decide +kernel
theorem dX2_put_35 : decode cX2_put 35 = .ok (.invokevirtual 153, 3) := by decide +kernel
theorem dX2_put_38 : decode cX2_put 38 = .ok (.goto 12, 3) := by decide +kernel
theorem dX2_put_41 : decode cX2_put 41 = .ok (.aload_n 0, 1) := by decide +kernel
theorem dX2_put_42 : decode cX2_put 42 = .ok (.getfield 12, 3) := by decide +kernel
theorem dX2_put_45 : decode cX2_put 45 = .ok (.iload_n 1, 1) := by decide +kernel
theorem dX2_put_46 : decode cX2_put 46 = .ok (.iload_n 2, 1) := by decide +kernel
theorem dX2_put_47 : decode cX2_put 47 = .ok (.invokevirtual 156, 3) := by decide +kernel
theorem dX2_put_50 : decode cX2_put 50 = .ok (.return_, 1) := by decide +kernel
set_option maxRecDepth 20000 in
theorem ggX2_combine_X2_add : GoodIn wsX2_combine wsX2_add := goodIn_r _ [7, 8, 9, 6, 10, 11, 12, 13, 14, 2, 15, 16, 17, 18, 19, 1, 28, 29, 30, 31] (by decide +kernel) (by decide +kernel)
set_option maxRecDepth 20000 in
theorem gX2_combine_X2_add : GoodIn wsX2_combine (wsV RX2 159 RX2 yX2_add wsX2_add) := goodIn_app (goodIn_of _ (by decide +kernel)) ggX2_combine_X2_add
set_option maxRecDepth 20000 in
theorem ggX2_combine_X2_addDecimal : GoodIn wsX2_combine wsX2_addDecimal := goodIn_r _ [23, 2, 11, 12, 13, 6, 14, 8, 9, 10, 15, 16, 17, 18, 19, 1, 28, 29, 30, 31] (by decide +kernel) (by decide +kernel)
set_option maxRecDepth 20000 in
theorem gX2_combine_X2_addDecimal : GoodIn wsX2_combine (wsV RX2 163 RX2 yX2_addDecimal wsX2_addDecimal) := goodIn_app (goodIn_of _ (by decide +kernel)) ggX2_combine_X2_addDecimal
set_option maxRecDepth 20000 in
theorem ggX2_combine_X2_isHighestSet : GoodIn wsX2_combine wsX2_isHighestSet := goodIn_r _ [10] (by decide +kernel) (by decide +kernel)
set_option maxRecDepth 20000 in
theorem gX2_combine_X2_isHighestSet : GoodIn wsX2_combine (va_wsS RX2 167 yX2_isHighestSet wsX2_isHighestSet) := goodIn_app (goodIn_of _ (by decide +kernel)) ggX2_combine_X2_isHighestSet
set_option maxRecDepth 20000 in
theorem ggX2_combine_X2_logical : GoodIn wsX2_combine wsX2_logical := goodIn_r _ [27, 11, 12, 13, 6, 14, 2, 8, 9, 10, 15, 16, 17, 18, 19, 1, 28, 29, 30, 31] (by decide +kernel) (by decide +kernel)
set_option maxRecDepth 20000 in
theorem gX2_combine_X2_logical : GoodIn wsX2_combine (wsV RX2 171 RX2 yX2_logical wsX2_logical) := goodIn_app (goodIn_of _ (by decide +kernel)) ggX2_combine_X2_logical
theorem dX2_combine_0 : decode cX2_combine 0 = .ok (.iload 4, 2) := by decide +kernel
theorem dX2_combine_2 : decode cX2_combine 2 = .ok (.ifCond .eq 9, 3) := by decide +kernel
theorem dX2_combine_5 : decode cX2_combine 5 = .ok (.sipush 255, 3) := by decide +kernel
theorem dX2_combine_8 : decode cX2_combine 8 = .ok (.goto 5, 3) := by decide +kernel
theorem dX2_combine_11 : decode cX2_combine 11 = .ok (.ldc 149, 2) := by decide +kernel
theorem dX2_combine_13 : decode cX2_combine 13 = .ok (.istore 5, 2) := by decide +kernel
theorem dX2_combine_15 : decode cX2_combine 15 = .ok (.iload_n 1, 1) := by decide +kernel
theorem dX2_combine_16 : decode cX2_combine 16 = .ok (.tableswitch 159 4 14 #[60, 62, 72, 89, 109, 109, 122, 159, 131, 137, 141], 60) := by decide +kernel
theorem dX2_combine_76 : decode cX2_combine 76 = .ok (.iload_n 2, 1) := by decide +kernel
theorem dX2_combine_77 : decode cX2_combine 77 = .ok (.ireturn, 1) := by decide +kernel
theorem dX2_combine_78 : decode cX2_combine 78 = .ok (.aload_n 0, 1) := by decide +kernel
theorem dX2_combine_79 : decode cX2_combine 79 = .ok (.iload_n 2, 1) := by decide +kernel
theorem dX2_combine_80 : decode cX2_combine 80 = .ok (.iload_n 3, 1) := by decide +kernel
theorem dX2_combine_81 : decode cX2_combine 81 = .ok (.iconst 0, 1) := by decide +kernel
theorem dX2_combine_82 : decode cX2_combine 82 = .ok (.iload 5, 2) := by decide +kernel
theorem dX2_combine_84 : decode cX2_combine 84 = .ok (.invokevirtual 159, 3) := by decide +kernel
theorem dX2_combine_87 : decode cX2_combine 87 = .ok (.ireturn, 1) := by decide +kernel
theorem dX2_combine_88 : decode cX2_combine 88 = .ok (.aload_n 0, 1) := by decide +kernel
theorem dX2_combine_89 : decode cX2_combine 89 = .ok (.iload_n 2, 1) := by decide +kernel
theorem dX2_combine_90 : decode cX2_combine 90 = .ok (.iload_n 3, 1) := by decide +kernel
theorem dX2_combine_91 : decode cX2_combine 91 = .ok (.aload_n 0, 1) := by decide +kernel
theorem dX2_combine_92 : decode cX2_combine 92 = .ok (.getfield 16, 3) := by decide +kernel
theorem dX2_combine_95 : decode cX2_combine 95 = .ok (.iconst 2, 1) := by decide +kernel
theorem dX2_combine_96 : decode cX2_combine 96 = .ok (.iaload, 1) := by decide +kernel
theorem dX2_combine_97 : decode cX2_combine 97 = .ok (.iconst 1, 1) := by decide +kernel
theorem dX2_combine_98 : decode cX2_combine 98 = .ok (.iand, 1) := by decide +kernel
theorem dX2_combine_99 : decode cX2_combine 99 = .ok (.iload 5, 2) := by decide +kernel
theorem dX2_combine_101 : decode cX2_combine 101 = .ok (.invokevirtual 159, 3) := by decide +kernel
theorem dX2_combine_104 : decode cX2_combine 104 = .ok (.ireturn, 1) := by decide +kernel
theorem dX2_combine_105 : decode cX2_combine 105 = .ok (.aload_n 0, 1) := by decide +kernel
theorem dX2_combine_106 : decode cX2_combine 106 = .ok (.iload_n 2, 1) := by decide +kernel
theorem dX2_combine_107 : decode cX2_combine 107 = .ok (.iload 5, 2) := by decide +kernel
theorem dX2_combine_109 : decode cX2_combine 109 = .ok (.ixor, 1) := by decide +kernel
theorem dX2_combine_110 : decode cX2_combine 110 = .ok (.iload_n 3, 1) := by decide +kernel
theorem dX2_combine_111 : decode cX2_combine 111 = .ok (.aload_n 0, 1) := by decide +kernel
theorem dX2_combine_112 : decode cX2_combine 112 = .ok (.getfield 16, 3) := by decide +kernel
theorem dX2_combine_115 : decode cX2_combine 115 = .ok (.iconst 2, 1) := by decide +kernel
theorem dX2_combine_116 : decode cX2_combine 116 = .ok (.iaload, 1) := by decide +kernel
theorem dX2_combine_117 : decode cX2_combine 117 = .ok (.iconst 1, 1) := by decide +kernel
theorem dX2_combine_118 : decode cX2_combine 118 = .ok (.iand, 1) := by decide +kernel
theorem dX2_combine_119 : decode cX2_combine 119 = .ok (.iload 5, 2) := by decide +kernel
theorem dX2_combine_121 : decode cX2_combine 121 = .ok (.invokevirtual 159, 3) := by decide +kernel
theorem dX2_combine_124 : decode cX2_combine 124 = .ok (.ireturn, 1) := by decide +kernel
theorem dX2_combine_125 : decode cX2_combine 125 = .ok (.aload_n 0, 1) := by decide +kernel
theorem dX2_combine_126 : decode cX2_combine 126 = .ok (.iload_n 2, 1) := by decide +kernel
theorem dX2_combine_127 : decode cX2_combine 127 = .ok (.iload 5, 2) := by decide +kernel
theorem dX2_combine_129 : decode cX2_combine 129 = .ok (.ixor, 1) := by decide +kernel
theorem dX2_combine_130 : decode cX2_combine 130 = .ok (.iload_n 3, 1) := by decide +kernel
theorem dX2_combine_131 : decode cX2_combine 131 = .ok (.iconst 1, 1) := by decide +kernel
theorem dX2_combine_132 : decode cX2_combine 132 = .ok (.iload 5, 2) := by decide +kernel
theorem dX2_combine_134 : decode cX2_combine 134 = .ok (.invokevirtual 159, 3) := by decide +kernel
theorem dX2_combine_137 : decode cX2_combine 137 = .ok (.ireturn, 1) := by decide +kernel
theorem dX2_combine_138 : decode cX2_combine 138 = .ok (.aload_n 0, 1) := by decide +kernel
theorem dX2_combine_139 : decode cX2_combine 139 = .ok (.iload_n 2, 1) := by decide +kernel
theorem dX2_combine_140 : decode cX2_combine 140 = .ok (.iload_n 3, 1) := by decide +kernel
theorem dX2_combine_141 : decode cX2_combine 141 = .ok (.iload 5, 2) := by decide +kernel
theorem dX2_combine_143 : decode cX2_combine 143 = .ok (.invokevirtual 163, 3) := by decide +kernel
theorem dX2_combine_146 : decode cX2_combine 146 = .ok (.ireturn, 1) := by decide +kernel
theorem dX2_combine_147 : decode cX2_combine 147 = .ok (.iload_n 3, 1) := by decide +kernel
theorem dX2_combine_148 : decode cX2_combine 148 = .ok (.iload_n 2, 1) := by decide +kernel
theorem dX2_combine_149 : decode cX2_combine 149 = .ok (.iconst (-1), 1) := by decide +kernel
theorem dX2_combine_150 : decode cX2_combine 150 = .ok (.ixor, 1) := by decide +kernel
theorem dX2_combine_151 : decode cX2_combine 151 = .ok (.iand, 1) := by decide +kernel
theorem dX2_combine_152 : decode cX2_combine 152 = .ok (.ireturn, 1) := by decide +kernel
theorem dX2_combine_153 : decode cX2_combine 153 = .ok (.iload_n 3, 1) := by decide +kernel
theorem dX2_combine_154 : decode cX2_combine 154 = .ok (.iload_n 2, 1) := by decide +kernel
theorem dX2_combine_155 : decode cX2_combine 155 = .ok (.ior, 1) := by decide +kernel
theorem dX2_combine_156 : decode cX2_combine 156 = .ok (.ireturn, 1) := by decide +kernel
theorem dX2_combine_157 : decode cX2_combine 157 = .ok (.aload_n 0, 1) := by decide +kernel
theorem dX2_combine_158 : decode cX2_combine 158 = .ok (.iload_n 2, 1) := by decide +kernel
theorem dX2_combine_159 : decode cX2_combine 159 = .ok (.iload_n 3, 1) := by decide +kernel
theorem dX2_combine_160 : decode cX2_combine 160 = .ok (.ixor, 1) := by decide +kernel
theorem dX2_combine_161 : decode cX2_combine 161 = .ok (.iload_n 2, 1) := by decide +kernel
theorem dX2_combine_162 : decode cX2_combine 162 = .ok (.iload_n 3, 1) := by decide +kernel
theorem dX2_combine_163 : decode cX2_combine 163 = .ok (.iand, 1) := by decide +kernel
theorem dX2_combine_164 : decode cX2_combine 164 = .ok (.iload 5, 2) := by decide +kernel
theorem dX2_combine_166 : decode cX2_combine 166 = .ok (.invokestatic 167, 3) := by decide +kernel
theorem dX2_combine_169 : decode cX2_combine 169 = .ok (.iload 5, 2) := by decide +kernel
theorem dX2_combine_171 : decode cX2_combine 171 = .ok (.invokevirtual 171, 3) := by decide +kernel
theorem dX2_combine_174 : decode cX2_combine 174 = .ok (.ireturn, 1) := by decide +kernel
theorem dX2_combine_175 : decode cX2_combine 175 = .ok (.aload_n 0, 1) := by decide +kernel
theorem dX2_combine_176 : decode cX2_combine 176 = .ok (.iload_n 2, 1) := by decide +kernel
theorem dX2_combine_177 : decode cX2_combine 177 = .ok (.iload_n 3, 1) := by decide +kernel
theorem dX2_combine_178 : decode cX2_combine 178 = .ok (.iand, 1) := by decide +kernel
theorem dX2_combine_179 : decode cX2_combine 179 = .ok (.iconst 0, 1) := by decide +kernel
theorem dX2_combine_180 : decode cX2_combine 180 = .ok (.iload 5, 2) := by decide +kernel
theorem dX2_combine_182 : decode cX2_combine 182 = .ok (.invokevirtual 171, 3) := by decide +kernel
theorem dX2_combine_185 : decode cX2_combine 185 = .ok (.ireturn, 1) := by decide +kernel
set_option maxRecDepth 20000 in
theorem ggX2_add_X2_isHighestSet : GoodIn wsX2_add wsX2_isHighestSet := goodIn_r _ [4] (by decide +kernel) (by decide +kernel)
set_option maxRecDepth 20000 in
theorem gX2_add_X2_isHighestSet : GoodIn wsX2_add (va_wsS RX2 167 yX2_isHighestSet wsX2_isHighestSet) := goodIn_app (goodIn_of _ (by decide +kernel)) ggX2_add_X2_isHighestSet
set_option maxRecDepth 20000 in
theorem ggX2_add_X2_setFlags : GoodIn wsX2_add wsX2_setFlags := goodIn_r _ [8, 9, 1, 2, 3, 4, 10, 11, 12, 13, 14, 15, 16, 17, 18, 19] (by decide +kernel) (by decide +kernel)
set_option maxRecDepth 20000 in
theorem gX2_add_X2_setFlags : GoodIn wsX2_add (wsV RX2 175 RX2 yX2_setFlags wsX2_setFlags) := goodIn_app (goodIn_of _ (by decide +kernel)) ggX2_add_X2_setFlags
theorem dX2_add_0 : decode cX2_add 0 = .ok (.iload_n 1, 1) := by decide +kernel
theorem dX2_add_1 : decode cX2_add 1 = .ok (.iload_n 2, 1) := by decide +kernel
theorem dX2_add_2 : decode cX2_add 2 = .ok (.iadd, 1) := by decide +kernel
theorem dX2_add_3 : decode cX2_add 3 = .ok (.iload_n 3, 1) := by decide +kernel
theorem dX2_add_4 : decode cX2_add 4 = .ok (.iadd, 1) := by decide +kernel
theorem dX2_add_5 : decode cX2_add 5 = .ok (.istore 5, 2) := by decide +kernel
theorem dX2_add_7 : decode cX2_add 7 = .ok (.iload 5, 2) := by decide +kernel
theorem dX2_add_9 : decode cX2_add 9 = .ok (.iload 4, 2) := by decide +kernel
theorem dX2_add_11 : decode cX2_add 11 = .ok (.iand, 1) := by decide +kernel
theorem dX2_add_12 : decode cX2_add 12 = .ok (.istore 6, 2) := by decide +kernel
theorem dX2_add_14 : decode cX2_add 14 = .ok (.iload_n 1, 1) := by decide +kernel
theorem dX2_add_15 : decode cX2_add 15 = .ok (.iload_n 2, 1) := by decide +kernel
theorem dX2_add_16 : decode cX2_add 16 = .ok (.ixor, 1) := by decide +kernel
theorem dX2_add_17 : decode cX2_add 17 = .ok (.iconst (-1), 1) := by decide +kernel
theorem dX2_add_18 : decode cX2_add 18 = .ok (.ixor, 1) := by decide +kernel
theorem dX2_add_19 : decode cX2_add 19 = .ok (.iload_n 1, 1) := by decide +kernel
theorem dX2_add_20 : decode cX2_add 20 = .ok (.iload 6, 2) := by decide +kernel
theorem dX2_add_22 : decode cX2_add 22 = .ok (.ixor, 1) := by decide +kernel
theorem dX2_add_23 : decode cX2_add 23 = .ok (.iand, 1) := by decide +kernel
theorem dX2_add_24 : decode cX2_add 24 = .ok (.iload 4, 2) := by decide +kernel
theorem dX2_add_26 : decode cX2_add 26 = .ok (.invokestatic 167, 3) := by decide +kernel
theorem dX2_add_29 : decode cX2_add 29 = .ok (.istore 7, 2) := by decide +kernel
theorem dX2_add_31 : decode cX2_add 31 = .ok (.aload_n 0, 1) := by decide +kernel
theorem dX2_add_32 : decode cX2_add 32 = .ok (.iload 6, 2) := by decide +kernel
theorem dX2_add_34 : decode cX2_add 34 = .ok (.iload 5, 2) := by decide +kernel
theorem dX2_add_36 : decode cX2_add 36 = .ok (.iload 4, 2) := by decide +kernel
theorem dX2_add_38 : decode cX2_add 38 = .ok (.if_icmp .le 7, 3) := by decide +kernel
theorem dX2_add_41 : decode cX2_add 41 = .ok (.iconst 1, 1) := by decide +kernel
theorem dX2_add_42 : decode cX2_add 42 = .ok (.goto 4, 3) := by decide +kernel
theorem dX2_add_45 : decode cX2_add 45 = .ok (.iconst 0, 1) := by decide +kernel
theorem dX2_add_46 : decode cX2_add 46 = .ok (.iload 7, 2) := by decide +kernel
theorem dX2_add_48 : decode cX2_add 48 = .ok (.iload 4, 2) := by decide +kernel
theorem dX2_add_50 : decode cX2_add 50 = .ok (.invokevirtual 175, 3) := by decide +kernel
theorem dX2_add_53 : decode cX2_add 53 = .ok (.iload 6, 2) := by decide +kernel
theorem dX2_add_55 : decode cX2_add 55 = .ok (.ireturn, 1) := by decide +kernel
set_option maxRecDepth 20000 in
theorem ggX2_addDecimal_X2_setFlags : GoodIn wsX2_addDecimal wsX2_setFlags := goodIn_r _ [6, 1, 7, 8, 5, 9, 10, 11, 12, 13, 14, 15, 16, 17, 18, 19] (by decide +kernel) (by decide +kernel)
set_option maxRecDepth 20000 in
theorem gX2_addDecimal_X2_setFlags : GoodIn wsX2_addDecimal (wsV RX2 175 RX2 yX2_setFlags wsX2_setFlags) := goodIn_app (goodIn_of _ (by decide +kernel)) ggX2_addDecimal_X2_setFlags
theorem dX2_addDecimal_0 : decode cX2_addDecimal 0 = .ok (.iconst 0, 1) := by decide +kernel
theorem dX2_addDecimal_1 : decode cX2_addDecimal 1 = .ok (.istore 4, 2) := by decide +kernel
theorem dX2_addDecimal_3 : decode cX2_addDecimal 3 = .ok (.aload_n 0, 1) := by decide +kernel
theorem dX2_addDecimal_4 : decode cX2_addDecimal 4 = .ok (.getfield 16, 3) := by decide +kernel
theorem dX2_addDecimal_7 : decode cX2_addDecimal 7 = .ok (.iconst 2, 1) := by decide +kernel
theorem dX2_addDecimal_8 : decode cX2_addDecimal 8 = .ok (.iaload, 1) := by decide +kernel
theorem dX2_addDecimal_9 : decode cX2_addDecimal 9 = .ok (.iconst 1, 1) := by decide +kernel
theorem dX2_addDecimal_10 : decode cX2_addDecimal 10 = .ok (.iand, 1) := by decide +kernel
theorem dX2_addDecimal_11 : decode cX2_addDecimal 11 = .ok (.istore 5, 2) := by decide +kernel
theorem dX2_addDecimal_13 : decode cX2_addDecimal 13 = .ok (.iconst 0, 1) := by decide +kernel
theorem dX2_addDecimal_14 : decode cX2_addDecimal 14 = .ok (.istore 6, 2) := by decide +kernel
theorem dX2_addDecimal_16 : decode cX2_addDecimal 16 = .ok (.iload 6, 2) := by decide +kernel
theorem dX2_addDecimal_18 : decode cX2_addDecimal 18 = .ok (.bipush 16, 2) := by decide +kernel
theorem dX2_addDecimal_20 : decode cX2_addDecimal 20 = .ok (.if_icmp .ge 69, 3) := by decide +kernel
theorem dX2_addDecimal_23 : decode cX2_addDecimal 23 = .ok (.iload_n 3, 1) := by decide +kernel
theorem dX2_addDecimal_24 : decode cX2_addDecimal 24 = .ok (.iload 6, 2) := by decide +kernel
theorem dX2_addDecimal_26 : decode cX2_addDecimal 26 = .ok (.ishr, 1) := by decide +kernel
theorem dX2_addDecimal_27 : decode cX2_addDecimal 27 = .ok (.ifCond .eq 62, 3) := by decide +kernel
theorem dX2_addDecimal_30 : decode cX2_addDecimal 30 = .ok (.iload_n 1, 1) := by decide +kernel
theorem dX2_addDecimal_31 : decode cX2_addDecimal 31 = .ok (.iload 6, 2) := by decide +kernel
theorem dX2_addDecimal_33 : decode cX2_addDecimal 33 = .ok (.ishr, 1) := by decide +kernel
theorem dX2_addDecimal_34 : decode cX2_addDecimal 34 = .ok (.bipush 15, 2) := by decide +kernel
theorem dX2_addDecimal_36 : decode cX2_addDecimal 36 = .ok (.iand, 1) := by decide +kernel
theorem dX2_addDecimal_37 : decode cX2_addDecimal 37 = .ok (.iload_n 2, 1) := by decide +kernel
theorem dX2_addDecimal_38 : decode cX2_addDecimal 38 = .ok (.iload 6, 2) := by decide +kernel
theorem dX2_addDecimal_40 : decode cX2_addDecimal 40 = .ok (.ishr, 1) := by decide +kernel
theorem dX2_addDecimal_41 : decode cX2_addDecimal 41 = .ok (.bipush 15, 2) := by decide +kernel
theorem dX2_addDecimal_43 : decode cX2_addDecimal 43 = .ok (.iand, 1) := by decide +kernel
theorem dX2_addDecimal_44 : decode cX2_addDecimal 44 = .ok (.iadd, 1) := by decide +kernel
theorem dX2_addDecimal_45 : decode cX2_addDecimal 45 = .ok (.iload 5, 2) := by decide +kernel
theorem dX2_addDecimal_47 : decode cX2_addDecimal 47 = .ok (.iadd, 1) := by decide +kernel
theorem dX2_addDecimal_48 : decode cX2_addDecimal 48 = .ok (.istore 7, 2) := by decide +kernel
theorem dX2_addDecimal_50 : decode cX2_addDecimal 50 = .ok (.iload 7, 2) := by decide +kernel
theorem dX2_addDecimal_52 : decode cX2_addDecimal 52 = .ok (.bipush 9, 2) := by decide +kernel
theorem dX2_addDecimal_54 : decode cX2_addDecimal 54 = .ok (.if_icmp .le 7, 3) := by decide +kernel
theorem dX2_addDecimal_57 : decode cX2_addDecimal 57 = .ok (.iconst 1, 1) := by decide +kernel
theorem dX2_addDecimal_58 : decode cX2_addDecimal 58 = .ok (.goto 4, 3) := by decide +kernel
theorem dX2_addDecimal_61 : decode cX2_addDecimal 61 = .ok (.iconst 0, 1) := by decide +kernel
theorem dX2_addDecimal_62 : decode cX2_addDecimal 62 = .ok (.istore 5, 2) := by decide +kernel
theorem dX2_addDecimal_64 : decode cX2_addDecimal 64 = .ok (.iload 4, 2) := by decide +kernel
theorem dX2_addDecimal_66 : decode cX2_addDecimal 66 = .ok (.iload 7, 2) := by decide +kernel
theorem dX2_addDecimal_68 : decode cX2_addDecimal 68 = .ok (.bipush 10, 2) := by decide +kernel
theorem dX2_addDecimal_70 : decode cX2_addDecimal 70 = .ok (.iload 5, 2) := by decide +kernel
theorem dX2_addDecimal_72 : decode cX2_addDecimal 72 = .ok (.imul, 1) := by decide +kernel
theorem dX2_addDecimal_73 : decode cX2_addDecimal 73 = .ok (.isub, 1) := by decide +kernel
theorem dX2_addDecimal_74 : decode cX2_addDecimal 74 = .ok (.bipush 15, 2) := by decide +kernel
theorem dX2_addDecimal_76 : decode cX2_addDecimal 76 = .ok (.iand, 1) := by decide +kernel
theorem dX2_addDecimal_77 : decode cX2_addDecimal 77 = .ok (.iload 6, 2) := by decide +kernel
theorem dX2_addDecimal_79 : decode cX2_addDecimal 79 = .ok (.ishl, 1) := by decide +kernel
theorem dX2_addDecimal_80 : decode cX2_addDecimal 80 = .ok (.ior, 1) := by decide +kernel
theorem dX2_addDecimal_81 : decode cX2_addDecimal 81 = .ok (.istore 4, 2) := by decide +kernel
theorem dX2_addDecimal_83 : decode cX2_addDecimal 83 = .ok (.iinc 6 4, 3) := by decide +kernel
theorem dX2_addDecimal_86 : decode cX2_addDecimal 86 = .ok (.goto (-70), 3) := by decide +kernel
theorem dX2_addDecimal_89 : decode cX2_addDecimal 89 = .ok (.aload_n 0, 1) := by decide +kernel
theorem dX2_addDecimal_90 : decode cX2_addDecimal 90 = .ok (.iload 4, 2) := by decide +kernel
theorem dX2_addDecimal_92 : decode cX2_addDecimal 92 = .ok (.iload 5, 2) := by decide +kernel
theorem dX2_addDecimal_94 : decode cX2_addDecimal 94 = .ok (.iconst 1, 1) := by decide +kernel
theorem dX2_addDecimal_95 : decode cX2_addDecimal 95 = .ok (.if_icmp .ne 7, 3) := by decide +kernel
theorem dX2_addDecimal_98 : decode cX2_addDecimal 98 = .ok (.iconst 1, 1) := by decide +kernel
theorem dX2_addDecimal_99 : decode cX2_addDecimal 99 = .ok (.goto 4, 3) := by decide +kernel
theorem dX2_addDecimal_102 : decode cX2_addDecimal 102 = .ok (.iconst 0, 1) := by decide +kernel
theorem dX2_addDecimal_103 : decode cX2_addDecimal 103 = .ok (.iconst 0, 1) := by decide +kernel
theorem dX2_addDecimal_104 : decode cX2_addDecimal 104 = .ok (.iload_n 3, 1) := by decide +kernel
theorem dX2_addDecimal_105 : decode cX2_addDecimal 105 = .ok (.invokevirtual 175, 3) := by decide +kernel
theorem dX2_addDecimal_108 : decode cX2_addDecimal 108 = .ok (.iload 4, 2) := by decide +kernel
theorem dX2_addDecimal_110 : decode cX2_addDecimal 110 = .ok (.ireturn, 1) := by decide +kernel
set_option maxRecDepth 20000 in
theorem ggX2_logical_X2_setFlags : GoodIn wsX2_logical wsX2_setFlags := goodIn_r _ [5, 6, 7, 8, 4, 9, 10, 11, 12, 13, 14, 15, 16, 17, 18, 19] (by decide +kernel) (by decide +kernel)
set_option maxRecDepth 20000 in
theorem gX2_logical_X2_setFlags : GoodIn wsX2_logical (wsV RX2 175 RX2 yX2_setFlags wsX2_setFlags) := goodIn_app (goodIn_of _ (by decide +kernel)) ggX2_logical_X2_setFlags
theorem dX2_logical_0 : decode cX2_logical 0 = .ok (.aload_n 0, 1) := by decide +kernel
theorem dX2_logical_1 : decode cX2_logical 1 = .ok (.iload_n 1, 1) := by decide +kernel
theorem dX2_logical_2 : decode cX2_logical 2 = .ok (.iload_n 1, 1) := by decide +kernel
theorem dX2_logical_3 : decode cX2_logical 3 = .ok (.ifCond .eq 7, 3) := by decide +kernel
theorem dX2_logical_6 : decode cX2_logical 6 = .ok (.iconst 1, 1) := by decide +kernel
theorem dX2_logical_7 : decode cX2_logical 7 = .ok (.goto 4, 3) := by decide +kernel
theorem dX2_logical_10 : decode cX2_logical 10 = .ok (.iconst 0, 1) := by decide +kernel
theorem dX2_logical_11 : decode cX2_logical 11 = .ok (.iload_n 2, 1) := by decide +kernel
theorem dX2_logical_12 : decode cX2_logical 12 = .ok (.iload_n 3, 1) := by decide +kernel
theorem dX2_logical_13 : decode cX2_logical 13 = .ok (.invokevirtual 175, 3) := by decide +kernel
theorem dX2_logical_16 : decode cX2_logical 16 = .ok (.iload_n 1, 1) := by decide +kernel
theorem dX2_logical_17 : decode cX2_logical 17 = .ok (.ireturn, 1) := by decide +kernel
set_option maxRecDepth 20000 in
theorem ggX2_change_X2_isSet : GoodIn wsX2_change wsX2_isSet := goodIn_r _ [6, 7, 28, 29, 30, 31] (by decide +kernel) (by decide +kernel)
set_option maxRecDepth 20000 in
theorem gX2_change_X2_isSet : GoodIn wsX2_change (wsV RX2 142 RX2 yX2_isSet wsX2_isSet) := goodIn_app (goodIn_of _ (by decide +kernel)) ggX2_change_X2_isSet
set_option maxRecDepth 20000 in
theorem ggX2_change_X2_shifted : GoodIn wsX2_change wsX2_shifted := goodIn_r _ [11, 12, 13, 14, 5, 15, 7, 16, 17, 18, 19, 20, 21, 22, 23, 1, 28, 29, 30, 31] (by decide +kernel) (by decide +kernel)
set_option maxRecDepth 20000 in
theorem gX2_change_X2_shifted : GoodIn wsX2_change (wsV RX2 179 RX2 yX2_shifted wsX2_shifted) := goodIn_app (goodIn_of _ (by decide +kernel)) ggX2_change_X2_shifted
set_option maxRecDepth 20000 in
theorem ggX2_change_X2_logical : GoodIn wsX2_change wsX2_logical := goodIn_r _ [27, 12, 13, 14, 5, 15, 7, 16, 17, 18, 19, 20, 21, 22, 23, 1, 28, 29, 30, 31] (by decide +kernel) (by decide +kernel)
set_option maxRecDepth 20000 in
theorem gX2_change_X2_logical : GoodIn wsX2_change (wsV RX2 171 RX2 yX2_logical wsX2_logical) := goodIn_app (goodIn_of _ (by decide +kernel)) ggX2_change_X2_logical
theorem dX2_change_0 : decode cX2_change 0 = .ok (.iload_n 3, 1) := by decide +kernel
theorem dX2_change_1 : decode cX2_change 1 = .ok (.ifCond .eq 9, 3) := by decide +kernel
theorem dX2_change_4 : decode cX2_change 4 = .ok (.sipush 255, 3) := by decide +kernel
theorem dX2_change_7 : decode cX2_change 7 = .ok (.goto 5, 3) := by decide +kernel
theorem dX2_change_10 : decode cX2_change 10 = .ok (.ldc 149, 2) := by decide +kernel
theorem dX2_change_12 : decode cX2_change 12 = .ok (.istore 4, 2) := by decide +kernel
theorem dX2_change_14 : decode cX2_change 14 = .ok (.iload 4, 2) := by decide +kernel
theorem dX2_change_16 : decode cX2_change 16 = .ok (.iconst 1, 1) := by decide +kernel
theorem dX2_change_17 : decode cX2_change 17 = .ok (.iadd, 1) := by decide +kernel
theorem dX2_change_18 : decode cX2_change 18 = .ok (.iconst 1, 1) := by decide +kernel
theorem dX2_change_19 : decode cX2_change 19 = .ok (.ishr, 1) := by decide +kernel
theorem dX2_change_20 : decode cX2_change 20 = .ok (.istore 5, 2) := by decide +kernel
theorem dX2_change_22 : decode cX2_change 22 = .ok (.iload_n 1, 1) := by decide +kernel
theorem dX2_change_23 : decode cX2_change 23 = .ok (.tableswitch 73 0 2 #[25, 47, 61], 25) := by decide +kernel
theorem dX2_change_48 : decode cX2_change 48 = .ok (.aload_n 0, 1) := by decide +kernel
theorem dX2_change_49 : decode cX2_change 49 = .ok (.iload_n 2, 1) := by decide +kernel
theorem dX2_change_50 : decode cX2_change 50 = .ok (.aload_n 0, 1) := by decide +kernel
theorem dX2_change_51 : decode cX2_change 51 = .ok (.iconst 1, 1) := by decide +kernel
theorem dX2_change_52 : decode cX2_change 52 = .ok (.invokevirtual 142, 3) := by decide +kernel
theorem dX2_change_55 : decode cX2_change 55 = .ok (.ifCond .eq 8, 3) := by decide +kernel
theorem dX2_change_58 : decode cX2_change 58 = .ok (.iload 5, 2) := by decide +kernel
theorem dX2_change_60 : decode cX2_change 60 = .ok (.goto 4, 3) := by decide +kernel
theorem dX2_change_63 : decode cX2_change 63 = .ok (.iconst 0, 1) := by decide +kernel
theorem dX2_change_64 : decode cX2_change 64 = .ok (.iload 4, 2) := by decide +kernel
theorem dX2_change_66 : decode cX2_change 66 = .ok (.invokevirtual 179, 3) := by decide +kernel
theorem dX2_change_69 : decode cX2_change 69 = .ok (.ireturn, 1) := by decide +kernel
theorem dX2_change_70 : decode cX2_change 70 = .ok (.iload_n 2, 1) := by decide +kernel
theorem dX2_change_71 : decode cX2_change 71 = .ok (.sipush 255, 3) := by decide +kernel
theorem dX2_change_74 : decode cX2_change 74 = .ok (.iand, 1) := by decide +kernel
theorem dX2_change_75 : decode cX2_change 75 = .ok (.bipush 8, 2) := by decide +kernel
theorem dX2_change_77 : decode cX2_change 77 = .ok (.ishl, 1) := by decide +kernel
theorem dX2_change_78 : decode cX2_change 78 = .ok (.iload_n 2, 1) := by decide +kernel
theorem dX2_change_79 : decode cX2_change 79 = .ok (.bipush 8, 2) := by decide +kernel
theorem dX2_change_81 : decode cX2_change 81 = .ok (.ishr, 1) := by decide +kernel
theorem dX2_change_82 : decode cX2_change 82 = .ok (.ior, 1) := by decide +kernel
theorem dX2_change_83 : decode cX2_change 83 = .ok (.ireturn, 1) := by decide +kernel
theorem dX2_change_84 : decode cX2_change 84 = .ok (.aload_n 0, 1) := by decide +kernel
theorem dX2_change_85 : decode cX2_change 85 = .ok (.iload_n 2, 1) := by decide +kernel
theorem dX2_change_86 : decode cX2_change 86 = .ok (.iload_n 2, 1) := by decide +kernel
theorem dX2_change_87 : decode cX2_change 87 = .ok (.iload 5, 2) := by decide +kernel
theorem dX2_change_89 : decode cX2_change 89 = .ok (.iand, 1) := by decide +kernel
theorem dX2_change_90 : decode cX2_change 90 = .ok (.iload 4, 2) := by decide +kernel
theorem dX2_change_92 : decode cX2_change 92 = .ok (.invokevirtual 179, 3) := by decide +kernel
theorem dX2_change_95 : decode cX2_change 95 = .ok (.ireturn, 1) := by decide +kernel
theorem dX2_change_96 : decode cX2_change 96 = .ok (.aload_n 0, 1) := by decide +kernel
theorem dX2_change_97 : decode cX2_change 97 = .ok (.iload_n 2, 1) := by decide +kernel
theorem dX2_change_98 : decode cX2_change 98 = .ok (.sipush 255, 3) := by decide +kernel
theorem dX2_change_101 : decode cX2_change 101 = .ok (.iand, 1) := by decide +kernel
theorem dX2_change_102 : decode cX2_change 102 = .ok (.sipush 128, 3) := by decide +kernel
theorem dX2_change_105 : decode cX2_change 105 = .ok (.ixor, 1) := by decide +kernel
theorem dX2_change_106 : decode cX2_change 106 = .ok (.sipush 128, 3) := by decide +kernel
theorem dX2_change_109 : decode cX2_change 109 = .ok (.isub, 1) := by decide +kernel
theorem dX2_change_110 : decode cX2_change 110 = .ok (.ldc 149, 2) := by decide +kernel
theorem dX2_change_112 : decode cX2_change 112 = .ok (.iand, 1) := by decide +kernel
theorem dX2_change_113 : decode cX2_change 113 = .ok (.iconst 0, 1) := by decide +kernel
theorem dX2_change_114 : decode cX2_change 114 = .ok (.iload 4, 2) := by decide +kernel
theorem dX2_change_116 : decode cX2_change 116 = .ok (.invokevirtual 171, 3) := by decide +kernel
theorem dX2_change_119 : decode cX2_change 119 = .ok (.ireturn, 1) := by decide +kernel
set_option maxRecDepth 20000 in
theorem ggX2_shifted_X2_setFlags : GoodIn wsX2_shifted wsX2_setFlags := goodIn_r _ [5, 6, 7, 8, 4, 9, 10, 11, 12, 13, 14, 15, 16, 17, 18, 19] (by decide +kernel) (by decide +kernel)
set_option maxRecDepth 20000 in
theorem gX2_shifted_X2_setFlags : GoodIn wsX2_shifted (wsV RX2 175 RX2 yX2_setFlags wsX2_setFlags) := goodIn_app (goodIn_of _ (by decide +kernel)) ggX2_shifted_X2_setFlags
theorem dX2_shifted_0 : decode cX2_shifted 0 = .ok (.iload_n 1, 1) := by decide +kernel
theorem dX2_shifted_1 : decode cX2_shifted 1 = .ok (.iconst 1, 1) := by decide +kernel
theorem dX2_shifted_2 : decode cX2_shifted 2 = .ok (.ishr, 1) := by decide +kernel
theorem dX2_shifted_3 : decode cX2_shifted 3 = .ok (.iload_n 2, 1) := by decide +kernel
theorem dX2_shifted_4 : decode cX2_shifted 4 = .ok (.ior, 1) := by decide +kernel
theorem dX2_shifted_5 : decode cX2_shifted 5 = .ok (.istore 4, 2) := by decide +kernel
theorem dX2_shifted_7 : decode cX2_shifted 7 = .ok (.aload_n 0, 1) := by decide +kernel
theorem dX2_shifted_8 : decode cX2_shifted 8 = .ok (.iload 4, 2) := by decide +kernel
theorem dX2_shifted_10 : decode cX2_shifted 10 = .ok (.iload_n 1, 1) := by decide +kernel
theorem dX2_shifted_11 : decode cX2_shifted 11 = .ok (.iconst 1, 1) := by decide +kernel
theorem dX2_shifted_12 : decode cX2_shifted 12 = .ok (.iand, 1) := by decide +kernel
theorem dX2_shifted_13 : decode cX2_shifted 13 = .ok (.ifCond .eq 7, 3) := by decide +kernel
theorem dX2_shifted_16 : decode cX2_shifted 16 = .ok (.iconst 1, 1) := by decide +kernel
theorem dX2_shifted_17 : decode cX2_shifted 17 = .ok (.goto 4, 3) := by decide +kernel
theorem dX2_shifted_20 : decode cX2_shifted 20 = .ok (.iconst 0, 1) := by decide +kernel
theorem dX2_shifted_21 : decode cX2_shifted 21 = .ok (.iconst 0, 1) := by decide +kernel
theorem dX2_shifted_22 : decode cX2_shifted 22 = .ok (.iload_n 3, 1) := by decide +kernel
theorem dX2_shifted_23 : decode cX2_shifted 23 = .ok (.invokevirtual 175, 3) := by decide +kernel
theorem dX2_shifted_26 : decode cX2_shifted 26 = .ok (.iload 4, 2) := by decide +kernel
theorem dX2_shifted_28 : decode cX2_shifted 28 = .ok (.ireturn, 1) := by decide +kernel
theorem dX2_isHighestSet_0 : decode cX2_isHighestSet 0 = .ok (.iload_n 0, 1) := by decide +kernel
theorem dX2_isHighestSet_1 : decode cX2_isHighestSet 1 = .ok (.iload_n 1, 1) := by decide +kernel
theorem dX2_isHighestSet_2 : decode cX2_isHighestSet 2 = .ok (.iconst 1, 1) := by decide +kernel
theorem dX2_isHighestSet_3 : decode cX2_isHighestSet 3 = .ok (.iadd, 1) := by decide +kernel
theorem dX2_isHighestSet_4 : decode cX2_isHighestSet 4 = .ok (.iconst 1, 1) := by decide +kernel
theorem dX2_isHighestSet_5 : decode cX2_isHighestSet 5 = .ok (.ishr, 1) := by decide +kernel
theorem dX2_isHighestSet_6 : decode cX2_isHighestSet 6 = .ok (.iand, 1) := by decide +kernel
theorem dX2_isHighestSet_7 : decode cX2_isHighestSet 7 = .ok (.ifCond .eq 7, 3) := by decide +kernel
theorem dX2_isHighestSet_10 : decode cX2_isHighestSet 10 = .ok (.iconst 1, 1) := by decide +kernel
theorem dX2_isHighestSet_11 : decode cX2_isHighestSet 11 = .ok (.goto 4, 3) := by decide +kernel
theorem dX2_isHighestSet_14 : decode cX2_isHighestSet 14 = .ok (.iconst 0, 1) := by decide +kernel
theorem dX2_isHighestSet_15 : decode cX2_isHighestSet 15 = .ok (.ireturn, 1) := by decide +kernel
set_option maxRecDepth 20000 in
theorem ggX2_setFlags_X2_isHighestSet : GoodIn wsX2_setFlags wsX2_isHighestSet := goodIn_r _ [5] (by decide +kernel) (by decide +kernel)
set_option maxRecDepth 20000 in
theorem gX2_setFlags_X2_isHighestSet : GoodIn wsX2_setFlags (va_wsS RX2 167 yX2_isHighestSet wsX2_isHighestSet) := goodIn_app (goodIn_of _ (by decide +kernel)) ggX2_setFlags_X2_isHighestSet
set_option maxRecDepth 20000 in
theorem ggX2_setFlags_X2_setRegister : GoodIn wsX2_setFlags wsX2_setRegister := goodIn_r _ [9, 1, 10, 11, 12, 13, 14, 15] (by decide +kernel) (by decide +kernel)
set_option maxRecDepth 20000 in
theorem gX2_setFlags_X2_setRegister : GoodIn wsX2_setFlags (wsV RX2 44 RX2 yX2_setRegister wsX2_setRegister) := goodIn_app (goodIn_of _ (by decide +kernel)) ggX2_setFlags_X2_setRegister
theorem dX2_setFlags_0 : decode cX2_setFlags 0 = .ok (.iload_n 2, 1) := by decide +kernel
theorem dX2_setFlags_1 : decode cX2_setFlags 1 = .ok (.ifCond .eq 7, 3) := by decide +kernel
theorem dX2_setFlags_4 : decode cX2_setFlags 4 = .ok (.iconst 1, 1) := by decide +kernel
theorem dX2_setFlags_5 : decode cX2_setFlags 5 = .ok (.goto 4, 3) := by decide +kernel
theorem dX2_setFlags_8 : decode cX2_setFlags 8 = .ok (.iconst 0, 1) := by decide +kernel
theorem dX2_setFlags_9 : decode cX2_setFlags 9 = .ok (.istore 5, 2) := by decide +kernel
theorem dX2_setFlags_11 : decode cX2_setFlags 11 = .ok (.iload_n 1, 1) := by decide +kernel
theorem dX2_setFlags_12 : decode cX2_setFlags 12 = .ok (.ifCond .ne 9, 3) := by decide +kernel
theorem dX2_setFlags_15 : decode cX2_setFlags 15 = .ok (.iload 5, 2) := by decide +kernel
theorem dX2_setFlags_17 : decode cX2_setFlags 17 = .ok (.iconst 2, 1) := by decide +kernel
theorem dX2_setFlags_18 : decode cX2_setFlags 18 = .ok (.ior, 1) := by decide +kernel
theorem dX2_setFlags_19 : decode cX2_setFlags 19 = .ok (.istore 5, 2) := by decide +kernel
theorem dX2_setFlags_21 : decode cX2_setFlags 21 = .ok (.iload_n 1, 1) := by decide +kernel
theorem dX2_setFlags_22 : decode cX2_setFlags 22 = .ok (.iload 4, 2) := by decide +kernel
theorem dX2_setFlags_24 : decode cX2_setFlags 24 = .ok (.invokestatic 167, 3) := by decide +kernel
theorem dX2_setFlags_27 : decode cX2_setFlags 27 = .ok (.ifCond .eq 9, 3) := by decide +kernel
theorem dX2_setFlags_30 : decode cX2_setFlags 30 = .ok (.iload 5, 2) := by decide +kernel
theorem dX2_setFlags_32 : decode cX2_setFlags 32 = .ok (.iconst 4, 1) := by decide +kernel
theorem dX2_setFlags_33 : decode cX2_setFlags 33 = .ok (.ior, 1) := by decide +kernel
theorem dX2_setFlags_34 : decode cX2_setFlags 34 = .ok (.istore 5, 2) := by decide +kernel
theorem dX2_setFlags_36 : decode cX2_setFlags 36 = .ok (.iload_n 3, 1) := by decide +kernel
theorem dX2_setFlags_37 : decode cX2_setFlags 37 = .ok (.ifCond .eq 11, 3) := by decide +kernel
theorem dX2_setFlags_40 : decode cX2_setFlags 40 = .ok (.iload 5, 2) := by decide +kernel
theorem dX2_setFlags_42 : decode cX2_setFlags 42 = .ok (.sipush 256, 3) := by decide +kernel
theorem dX2_setFlags_45 : decode cX2_setFlags 45 = .ok (.ior, 1) := by decide +kernel
theorem dX2_setFlags_46 : decode cX2_setFlags 46 = .ok (.istore 5, 2) := by decide +kernel
theorem dX2_setFlags_48 : decode cX2_setFlags 48 = .ok (.aload_n 0, 1) := by decide +kernel
theorem dX2_setFlags_49 : decode cX2_setFlags 49 = .ok (.iconst 2, 1) := by decide +kernel
theorem dX2_setFlags_50 : decode cX2_setFlags 50 = .ok (.aload_n 0, 1) := by decide +kernel
theorem dX2_setFlags_51 : decode cX2_setFlags 51 = .ok (.getfield 16, 3) := by decide +kernel
theorem dX2_setFlags_54 : decode cX2_setFlags 54 = .ok (.iconst 2, 1) := by decide +kernel
theorem dX2_setFlags_55 : decode cX2_setFlags 55 = .ok (.iaload, 1) := by decide +kernel
theorem dX2_setFlags_56 : decode cX2_setFlags 56 = .ok (.sipush (-264), 3) := by decide +kernel
theorem dX2_setFlags_59 : decode cX2_setFlags 59 = .ok (.iand, 1) := by decide +kernel
theorem dX2_setFlags_60 : decode cX2_setFlags 60 = .ok (.iload 5, 2) := by decide +kernel
theorem dX2_setFlags_62 : decode cX2_setFlags 62 = .ok (.ior, 1) := by decide +kernel
theorem dX2_setFlags_63 : decode cX2_setFlags 63 = .ok (.invokevirtual 44, 3) := by decide +kernel
theorem dX2_setFlags_66 : decode cX2_setFlags 66 = .ok (.return_, 1) := by decide +kernel
theorem dX2_isSet_0 : decode cX2_isSet 0 = .ok (.aload_n 0, 1) := by decide +kernel
theorem dX2_isSet_1 : decode cX2_isSet 1 = .ok (.getfield 16, 3) := by decide +kernel
theorem dX2_isSet_4 : decode cX2_isSet 4 = .ok (.iconst 2, 1) := by decide +kernel
theorem dX2_isSet_5 : decode cX2_isSet 5 = .ok (.iaload, 1) := by decide +kernel
theorem dX2_isSet_6 : decode cX2_isSet 6 = .ok (.iload_n 1, 1) := by decide +kernel
theorem dX2_isSet_7 : decode cX2_isSet 7 = .ok (.iand, 1) := by decide +kernel
theorem dX2_isSet_8 : decode cX2_isSet 8 = .ok (.ifCond .eq 7, 3) := by decide +kernel
theorem dX2_isSet_11 : decode cX2_isSet 11 = .ok (.iconst 1, 1) := by decide +kernel
theorem dX2_isSet_12 : decode cX2_isSet 12 = .ok (.goto 4, 3) := by decide +kernel
theorem dX2_isSet_15 : decode cX2_isSet 15 = .ok (.iconst 0, 1) := by decide +kernel
theorem dX2_isSet_16 : decode cX2_isSet 16 = .ok (.ireturn, 1) := by decide +kernel
set_option maxRecDepth 20000 in
theorem ggX2_push_X2_addToRegister : GoodIn wsX2_push wsX2_addToRegister := goodIn_r _ [7, 2, 8, 9, 10, 6, 11, 12, 13, 73, 74, 75, 76] (by decide +kernel) (by decide +kernel)
set_option maxRecDepth 20000 in
theorem gX2_push_X2_addToRegister : GoodIn wsX2_push (wsV RX2 62 RX2 yX2_addToRegister wsX2_addToRegister) := goodIn_app (goodIn_of _ (by decide +kernel)) ggX2_push_X2_addToRegister
set_option maxRecDepth 20000 in
theorem ggX2_push_X0_writeByte : GoodIn wsX2_push wsX0_writeByte := goodIn_r _ [17, 18, 19, 20, 15, 21, 22, 23, 24, 25, 26, 27, 28, 29, 30, 31, 32, 33, 34, 35, 36, 37, 38, 39, 40, 41, 42, 43, 44, 45, 46, 47, 48, 49, 50, 51, 52, 53, 54, 55, 56, 57, 58, 59, 60, 61, 62, 63, 64, 65, 66, 67, 68, 69, 77, 78, 79, 80, 81, 82, 83, 84] (by decide +kernel) (by decide +kernel)
set_option maxRecDepth 20000 in
theorem gX2_push_X0_writeByte_n153 : GoodIn wsX2_push (wsX0_writeByte) := ggX2_push_X0_writeByte
set_option maxRecDepth 20000 in
theorem ggX2_push_X0_writeWord : GoodIn wsX2_push wsX0_writeWord := goodIn_r _ [72, 18, 19, 20, 15, 21, 22, 34, 35, 36, 58, 38, 59, 60, 61, 62, 49, 50, 51, 41, 42, 43, 44, 45, 63, 64, 65, 66, 67, 68, 69, 52, 53, 54, 55, 32, 56, 57, 46, 47, 48, 33, 77, 78, 79, 80, 81, 82, 83, 84] (by decide +kernel) (by decide +kernel)
set_option maxRecDepth 20000 in
theorem gX2_push_X0_writeWord_n156 : GoodIn wsX2_push (wsX0_writeWord) := ggX2_push_X0_writeWord
theorem dX2_push_0 : decode cX2_push 0 = .ok (.aload_n 0, 1) := by decide +kernel
theorem dX2_push_1 : decode cX2_push 1 = .ok (.iconst 1, 1) := by decide +kernel
theorem dX2_push_2 : decode cX2_push 2 = .ok (.bipush (-2), 2) := by decide +kernel
theorem dX2_push_4 : decode cX2_push 4 = .ok (.invokevirtual 62, 3) := by decide +kernel
theorem dX2_push_7 : decode cX2_push 7 = .ok (.iload_n 2, 1) := by decide +kernel
theorem dX2_push_8 : decode cX2_push 8 = .ok (.ifCond .eq 20, 3) := by decide +kernel
theorem dX2_push_11 : decode cX2_push 11 = .ok (.aload_n 0, 1) := by decide +kernel
theorem dX2_push_12 : decode cX2_push 12 = .ok (.getfield 12, 3) := by decide +kernel
theorem dX2_push_15 : decode cX2_push 15 = .ok (.aload_n 0, 1) := by decide +kernel
theorem dX2_push_16 : decode cX2_push 16 = .ok (.getfield 16, 3) := by decide +kernel
theorem dX2_push_19 : decode cX2_push 19 = .ok (.iconst 1, 1) := by decide +kernel
theorem dX2_push_20 : decode cX2_push 20 = .ok (.iaload, 1) := by decide +kernel
theorem dX2_push_21 : decode cX2_push 21 = .ok (.iload_n 1, 1) := by decide +kernel
theorem dX2_push_22 : decode cX2_push 22 = .ok (.invokevirtual 153, 3) := by decide +kernel
theorem dX2_push_25 : decode cX2_push 25 = .ok (.goto 17, 3) := by decide +kernel
theorem dX2_push_28 : decode cX2_push 28 = .ok (.aload_n 0, 1) := by decide +kernel
theorem dX2_push_29 : decode cX2_push 29 = .ok (.getfield 12, 3) := by decide +kernel
theorem dX2_push_32 : decode cX2_push 32 = .ok (.aload_n 0, 1) := by decide +kernel
theorem dX2_push_33 : decode cX2_push 33 = .ok (.getfield 16, 3) := by decide +kernel
theorem dX2_push_36 : decode cX2_push 36 = .ok (.iconst 1, 1) := by decide +kernel
theorem dX2_push_37 : decode cX2_push 37 = .ok (.iaload, 1) := by decide +kernel
theorem dX2_push_38 : decode cX2_push 38 = .ok (.iload_n 1, 1) := by decide +kernel
theorem dX2_push_39 : decode cX2_push 39 = .ok (.invokevirtual 156, 3) := by decide +kernel
theorem dX2_push_42 : decode cX2_push 42 = .ok (.return_, 1) := by decide +kernel
set_option maxRecDepth 20000 in
theorem ggX2_pop_X0_wordAt : GoodIn wsX2_pop wsX0_wordAt := goodIn_r _ [6, 7, 8, 9, 10, 11, 4, 12, 13, 14, 15, 16, 17, 18, 19, 20, 21, 22, 23, 24, 25, 26, 27, 28, 44, 45, 46, 47, 48, 49, 50, 51] (by decide +kernel) (by decide +kernel)
set_option maxRecDepth 20000 in
theorem gX2_pop_X0_wordAt_n40 : GoodIn wsX2_pop (wsX0_wordAt) := ggX2_pop_X0_wordAt
set_option maxRecDepth 20000 in
theorem ggX2_pop_X2_addToRegister : GoodIn wsX2_pop wsX2_addToRegister := goodIn_r _ [33, 2, 34, 35, 36, 32, 37, 38, 39, 40, 41, 42, 43] (by decide +kernel) (by decide +kernel)
set_option maxRecDepth 20000 in
theorem gX2_pop_X2_addToRegister : GoodIn wsX2_pop (wsV RX2 62 RX2 yX2_addToRegister wsX2_addToRegister) := goodIn_app (goodIn_of _ (by decide +kernel)) ggX2_pop_X2_addToRegister
theorem dX2_pop_0 : decode cX2_pop 0 = .ok (.aload_n 0, 1) := by decide +kernel
theorem dX2_pop_1 : decode cX2_pop 1 = .ok (.getfield 12, 3) := by decide +kernel
theorem dX2_pop_4 : decode cX2_pop 4 = .ok (.aload_n 0, 1) := by decide +kernel
theorem dX2_pop_5 : decode cX2_pop 5 = .ok (.getfield 16, 3) := by decide +kernel
theorem dX2_pop_8 : decode cX2_pop 8 = .ok (.iconst 1, 1) := by decide +kernel
theorem dX2_pop_9 : decode cX2_pop 9 = .ok (.iaload, 1) := by decide +kernel
theorem dX2_pop_10 : decode cX2_pop 10 = .ok (.invokevirtual 40, 3) := by decide +kernel
theorem dX2_pop_13 : decode cX2_pop 13 = .ok (.istore_n 1, 1) := by decide +kernel
theorem dX2_pop_14 : decode cX2_pop 14 = .ok (.aload_n 0, 1) := by decide +kernel
theorem dX2_pop_15 : decode cX2_pop 15 = .ok (.iconst 1, 1) := by decide +kernel
theorem dX2_pop_16 : decode cX2_pop 16 = .ok (.iconst 2, 1) := by decide +kernel
theorem dX2_pop_17 : decode cX2_pop 17 = .ok (.invokevirtual 62, 3) := by decide +kernel
theorem dX2_pop_20 : decode cX2_pop 20 = .ok (.iload_n 1, 1) := by decide +kernel
theorem dX2_pop_21 : decode cX2_pop 21 = .ok (.ireturn, 1) := by decide +kernel
set_option maxRecDepth 20000 in
theorem ggX2_addToRegister_X2_setRegister : GoodIn wsX2_addToRegister wsX2_setRegister := goodIn_r _ [6, 1, 7, 8, 9, 10, 11, 12] (by decide +kernel) (by decide +kernel)
set_option maxRecDepth 20000 in
theorem gX2_addToRegister_X2_setRegister : GoodIn wsX2_addToRegister (wsV RX2 44 RX2 yX2_setRegister wsX2_setRegister) := goodIn_app (goodIn_of _ (by decide +kernel)) ggX2_addToRegister_X2_setRegister
theorem dX2_addToRegister_0 : decode cX2_addToRegister 0 = .ok (.aload_n 0, 1) := by decide +kernel
theorem dX2_addToRegister_1 : decode cX2_addToRegister 1 = .ok (.iload_n 1, 1) := by decide +kernel
theorem dX2_addToRegister_2 : decode cX2_addToRegister 2 = .ok (.aload_n 0, 1) := by decide +kernel
theorem dX2_addToRegister_3 : decode cX2_addToRegister 3 = .ok (.getfield 16, 3) := by decide +kernel
theorem dX2_addToRegister_6 : decode cX2_addToRegister 6 = .ok (.iload_n 1, 1) := by decide +kernel
theorem dX2_addToRegister_7 : decode cX2_addToRegister 7 = .ok (.bipush 15, 2) := by decide +kernel
theorem dX2_addToRegister_9 : decode cX2_addToRegister 9 = .ok (.iand, 1) := by decide +kernel
theorem dX2_addToRegister_10 : decode cX2_addToRegister 10 = .ok (.iaload, 1) := by decide +kernel
theorem dX2_addToRegister_11 : decode cX2_addToRegister 11 = .ok (.iload_n 2, 1) := by decide +kernel
theorem dX2_addToRegister_12 : decode cX2_addToRegister 12 = .ok (.iadd, 1) := by decide +kernel
theorem dX2_addToRegister_13 : decode cX2_addToRegister 13 = .ok (.invokevirtual 44, 3) := by decide +kernel
theorem dX2_addToRegister_16 : decode cX2_addToRegister 16 = .ok (.return_, 1) := by decide +kernel
theorem dX2_setRegister_0 : decode cX2_setRegister 0 = .ok (.iload_n 1, 1) := by decide +kernel
theorem dX2_setRegister_1 : decode cX2_setRegister 1 = .ok (.iconst 3, 1) := by decide +kernel
theorem dX2_setRegister_2 : decode cX2_setRegister 2 = .ok (.if_icmp .ne 4, 3) := by decide +kernel
theorem dX2_setRegister_5 : decode cX2_setRegister 5 = .ok (.return_, 1) := by decide +kernel
theorem dX2_setRegister_6 : decode cX2_setRegister 6 = .ok (.aload_n 0, 1) := by decide +kernel
theorem dX2_setRegister_7 : decode cX2_setRegister 7 = .ok (.getfield 16, 3) := by decide +kernel
theorem dX2_setRegister_10 : decode cX2_setRegister 10 = .ok (.iload_n 1, 1) := by decide +kernel
theorem dX2_setRegister_11 : decode cX2_setRegister 11 = .ok (.bipush 15, 2) := by decide +kernel
theorem dX2_setRegister_13 : decode cX2_setRegister 13 = .ok (.iand, 1) := by decide +kernel
theorem dX2_setRegister_14 : decode cX2_setRegister 14 = .ok (.iload_n 2, 1) := by decide +kernel
theorem dX2_setRegister_15 : decode cX2_setRegister 15 = .ok (.iload_n 1, 1) := by decide +kernel
theorem dX2_setRegister_16 : decode cX2_setRegister 16 = .ok (.ifCond .ne 8, 3) := by decide +kernel
theorem dX2_setRegister_19 : decode cX2_setRegister 19 = .ok (.ldc 39, 2) := by decide +kernel
theorem dX2_setRegister_21 : decode cX2_setRegister 21 = .ok (.goto 5, 3) := by decide +kernel
theorem dX2_setRegister_24 : decode cX2_setRegister 24 = .ok (.ldc 149, 2) := by decide +kernel
theorem dX2_setRegister_26 : decode cX2_setRegister 26 = .ok (.iand, 1) := by decide +kernel
theorem dX2_setRegister_27 : decode cX2_setRegister 27 = .ok (.iastore, 1) := by decide +kernel
theorem dX2_setRegister_28 : decode cX2_setRegister 28 = .ok (.return_, 1) := by decide +kernel
theorem dX2_kindOfSource_0 : decode cX2_kindOfSource 0 = .ok (.iload_n 0, 1) := by decide +kernel
theorem dX2_kindOfSource_1 : decode cX2_kindOfSource 1 = .ok (.ldc 48, 2) := by decide +kernel
theorem dX2_kindOfSource_3 : decode cX2_kindOfSource 3 = .ok (.if_icmp .lt 7, 3) := by decide +kernel
theorem dX2_kindOfSource_6 : decode cX2_kindOfSource 6 = .ok (.iconst 0, 1) := by decide +kernel
theorem dX2_kindOfSource_7 : decode cX2_kindOfSource 7 = .ok (.goto 12, 3) := by decide +kernel
theorem dX2_kindOfSource_10 : decode cX2_kindOfSource 10 = .ok (.getstatic 182, 3) := by decide +kernel
theorem dX2_kindOfSource_13 : decode cX2_kindOfSource 13 = .ok (.iload_n 1, 1) := by decide +kernel
theorem dX2_kindOfSource_14 : decode cX2_kindOfSource 14 = .ok (.iconst 4, 1) := by decide +kernel
theorem dX2_kindOfSource_15 : decode cX2_kindOfSource 15 = .ok (.ishr, 1) := by decide +kernel
theorem dX2_kindOfSource_16 : decode cX2_kindOfSource 16 = .ok (.iconst 3, 1) := by decide +kernel
theorem dX2_kindOfSource_17 : decode cX2_kindOfSource 17 = .ok (.iand, 1) := by decide +kernel
theorem dX2_kindOfSource_18 : decode cX2_kindOfSource 18 = .ok (.iaload, 1) := by decide +kernel
theorem dX2_kindOfSource_19 : decode cX2_kindOfSource 19 = .ok (.ireturn, 1) := by decide +kernel
theorem dX2_twoPartsCycles_0 : decode cX2_twoPartsCycles 0 = .ok (.iload_n 0, 1) := by decide +kernel
theorem dX2_twoPartsCycles_1 : decode cX2_twoPartsCycles 1 = .ok (.ldc 48, 2) := by decide +kernel
theorem dX2_twoPartsCycles_3 : decode cX2_twoPartsCycles 3 = .ok (.if_icmp .ge 7, 3) := by decide +kernel
theorem dX2_twoPartsCycles_6 : decode cX2_twoPartsCycles 6 = .ok (.getstatic 185, 3) := by decide +kernel
theorem dX2_twoPartsCycles_9 : decode cX2_twoPartsCycles 9 = .ok (.areturn, 1) := by decide +kernel
theorem dX2_twoPartsCycles_10 : decode cX2_twoPartsCycles 10 = .ok (.iload_n 0, 1) := by decide +kernel
theorem dX2_twoPartsCycles_11 : decode cX2_twoPartsCycles 11 = .ok (.ldc 48, 2) := by decide +kernel
theorem dX2_twoPartsCycles_13 : decode cX2_twoPartsCycles 13 = .ok (.if_icmp .ne 9, 3) := by decide +kernel
theorem dX2_twoPartsCycles_16 : decode cX2_twoPartsCycles 16 = .ok (.getstatic 188, 3) := by decide +kernel
theorem dX2_twoPartsCycles_19 : decode cX2_twoPartsCycles 19 = .ok (.goto 6, 3) := by decide +kernel
theorem dX2_twoPartsCycles_22 : decode cX2_twoPartsCycles 22 = .ok (.getstatic 191, 3) := by decide +kernel
theorem dX2_twoPartsCycles_25 : decode cX2_twoPartsCycles 25 = .ok (.areturn, 1) := by decide +kernel
set_option maxRecDepth 20000 in
theorem ggX2_spendByKind_X2_spend : GoodIn wsX2_spendByKind wsX2_spend := goodIn_r _ [5, 6, 7, 8, 9, 10, 11] (by decide +kernel) (by decide +kernel)
set_option maxRecDepth 20000 in
theorem gX2_spendByKind_X2_spend : GoodIn wsX2_spendByKind (wsV RX2 93 RX2 yX2_spend wsX2_spend) := goodIn_app (goodIn_of _ (by decide +kernel)) ggX2_spendByKind_X2_spend
theorem dX2_spendByKind_0 : decode cX2_spendByKind 0 = .ok (.aload_n 0, 1) := by decide +kernel
theorem dX2_spendByKind_1 : decode cX2_spendByKind 1 = .ok (.aload_n 1, 1) := by decide +kernel
theorem dX2_spendByKind_2 : decode cX2_spendByKind 2 = .ok (.iload_n 2, 1) := by decide +kernel
theorem dX2_spendByKind_3 : decode cX2_spendByKind 3 = .ok (.iconst 3, 1) := by decide +kernel
theorem dX2_spendByKind_4 : decode cX2_spendByKind 4 = .ok (.iand, 1) := by decide +kernel
theorem dX2_spendByKind_5 : decode cX2_spendByKind 5 = .ok (.iaload, 1) := by decide +kernel
theorem dX2_spendByKind_6 : decode cX2_spendByKind 6 = .ok (.invokevirtual 93, 3) := by decide +kernel
theorem dX2_spendByKind_9 : decode cX2_spendByKind 9 = .ok (.return_, 1) := by decide +kernel
theorem dX2_spend_0 : decode cX2_spend 0 = .ok (.aload_n 0, 1) := by decide +kernel
theorem dX2_spend_1 : decode cX2_spend 1 = .ok (.aload_n 0, 1) := by decide +kernel
theorem dX2_spend_2 : decode cX2_spend 2 = .ok (.getfield 27, 3) := by decide +kernel
theorem dX2_spend_5 : decode cX2_spend 5 = .ok (.iload_n 1, 1) := by decide +kernel
theorem dX2_spend_6 : decode cX2_spend 6 = .ok (.iadd, 1) := by decide +kernel
theorem dX2_spend_7 : decode cX2_spend 7 = .ok (.ldc 194, 2) := by decide +kernel
theorem dX2_spend_9 : decode cX2_spend 9 = .ok (.iand, 1) := by decide +kernel
theorem dX2_spend_10 : decode cX2_spend 10 = .ok (.putfield 27, 3) := by decide +kernel
theorem dX2_spend_13 : decode cX2_spend 13 = .ok (.return_, 1) := by decide +kernel
set_option maxRecDepth 20000 in
theorem ggX3_init_X3_init_ : GoodIn wsX3_init wsX3_init_ := goodIn_r _ [14, 8, 9, 15, 16, 17, 18, 19, 20, 21, 13, 22, 6, 23, 24, 25, 26, 27, 28, 29, 30, 31, 32, 33, 34, 35, 36, 37, 38, 39, 40, 41, 42] (by decide +kernel) (by decide +kernel)
set_option maxRecDepth 20000 in
theorem gX3_init_X3_init_ : GoodIn wsX3_init (wsV RX3 21 RX3 yX3_init_ wsX3_init_) := goodIn_app (goodIn_of _ (by decide +kernel)) ggX3_init_X3_init_
theorem dX3_init_0 : decode cX3_init 0 = .ok (.aload_n 0, 1) := by decide +kernel
theorem dX3_init_1 : decode cX3_init 1 = .ok (.invokespecial 1, 3) := by decide +kernel
theorem dX3_init_4 : decode cX3_init 4 = .ok (.aload_n 0, 1) := by decide +kernel
theorem dX3_init_5 : decode cX3_init 5 = .ok (.ldc 7, 2) := by decide +kernel
theorem dX3_init_7 : decode cX3_init 7 = .ok (.newarray .short, 2) := by decide +kernel
theorem dX3_init_9 : decode cX3_init 9 = .ok (.putfield 8, 3) := by decide +kernel
theorem dX3_init_12 : decode cX3_init 12 = .ok (.aload_n 0, 1) := by decide +kernel
theorem dX3_init_13 : decode cX3_init 13 = .ok (.bipush 16, 2) := by decide +kernel
theorem dX3_init_15 : decode cX3_init 15 = .ok (.newarray .int, 2) := by decide +kernel
theorem dX3_init_17 : decode cX3_init 17 = .ok (.putfield 14, 3) := by decide +kernel
theorem dX3_init_20 : decode cX3_init 20 = .ok (.aload_n 0, 1) := by decide +kernel
theorem dX3_init_21 : decode cX3_init 21 = .ok (.iconst 5, 1) := by decide +kernel
theorem dX3_init_22 : decode cX3_init 22 = .ok (.newarray .int, 2) := by decide +kernel
theorem dX3_init_24 : decode cX3_init 24 = .ok (.putfield 18, 3) := by decide +kernel
theorem dX3_init_27 : decode cX3_init 27 = .ok (.aload_n 0, 1) := by decide +kernel
theorem dX3_init_28 : decode cX3_init 28 = .ok (.invokevirtual 21, 3) := by decide +kernel
theorem dX3_init_31 : decode cX3_init 31 = .ok (.return_, 1) := by decide +kernel
set_option maxRecDepth 20000 in
theorem ggX3_init__X3_wordAt : GoodIn wsX3_init_ wsX3_wordAt := goodIn_r _ [11, 2, 12, 13, 14, 15, 10, 16, 17, 18, 19, 24, 25, 26, 27, 28, 29, 30, 31, 32] (by decide +kernel) (by decide +kernel)
set_option maxRecDepth 20000 in
theorem gX3_init__X3_wordAt : GoodIn wsX3_init_ (wsV RX3 35 RX3 yX3_wordAt wsX3_wordAt) := goodIn_app (goodIn_of _ (by decide +kernel)) ggX3_init__X3_wordAt
set_option maxRecDepth 20000 in
theorem ggX3_init__X3_setRegister : GoodIn wsX3_init_ wsX3_setRegister := goodIn_r _ [23, 1, 6, 13, 24, 25, 26, 27, 28, 29, 30, 31, 32] (by decide +kernel) (by decide +kernel)
set_option maxRecDepth 20000 in
theorem gX3_init__X3_setRegister : GoodIn wsX3_init_ (wsV RX3 39 RX3 yX3_setRegister wsX3_setRegister) := goodIn_app (goodIn_of _ (by decide +kernel)) ggX3_init__X3_setRegister
theorem dX3_init__0 : decode cX3_init_ 0 = .ok (.iconst 0, 1) := by decide +kernel
theorem dX3_init__1 : decode cX3_init_ 1 = .ok (.istore_n 1, 1) := by decide +kernel
theorem dX3_init__2 : decode cX3_init_ 2 = .ok (.iload_n 1, 1) := by decide +kernel
theorem dX3_init__3 : decode cX3_init_ 3 = .ok (.bipush 16, 2) := by decide +kernel
theorem dX3_init__5 : decode cX3_init_ 5 = .ok (.if_icmp .ge 16, 3) := by decide +kernel
theorem dX3_init__8 : decode cX3_init_ 8 = .ok (.aload_n 0, 1) := by decide +kernel
theorem dX3_init__9 : decode cX3_init_ 9 = .ok (.getfield 14, 3) := by decide +kernel
theorem dX3_init__12 : decode cX3_init_ 12 = .ok (.iload_n 1, 1) := by decide +kernel
theorem dX3_init__13 : decode cX3_init_ 13 = .ok (.iconst 0, 1) := by decide +kernel
theorem dX3_init__14 : decode cX3_init_ 14 = .ok (.iastore, 1) := by decide +kernel
theorem dX3_init__15 : decode cX3_init_ 15 = .ok (.iinc 1 1, 3) := by decide +kernel
theorem dX3_init__18 : decode cX3_init_ 18 = .ok (.goto (-16), 3) := by decide +kernel
theorem dX3_init__21 : decode cX3_init_ 21 = .ok (.iconst 0, 1) := by decide +kernel
theorem dX3_init__22 : decode cX3_init_ 22 = .ok (.istore_n 1, 1) := by decide +kernel
theorem dX3_init__23 : decode cX3_init_ 23 = .ok (.iload_n 1, 1) := by decide +kernel
theorem dX3_init__24 : decode cX3_init_ 24 = .ok (.iconst 5, 1) := by decide +kernel
theorem dX3_init__25 : decode cX3_init_ 25 = .ok (.if_icmp .ge 16, 3) := by decide +kernel
theorem dX3_init__28 : decode cX3_init_ 28 = .ok (.aload_n 0, 1) := by decide +kernel
theorem dX3_init__29 : decode cX3_init_ 29 = .ok (.getfield 18, 3) := by decide +kernel
theorem dX3_init__32 : decode cX3_init_ 32 = .ok (.iload_n 1, 1) := by decide +kernel
theorem dX3_init__33 : decode cX3_init_ 33 = .ok (.iconst 0, 1) := by decide +kernel
theorem dX3_init__34 : decode cX3_init_ 34 = .ok (.iastore, 1) := by decide +kernel
theorem dX3_init__35 : decode cX3_init_ 35 = .ok (.iinc 1 1, 3) := by decide +kernel
theorem dX3_init__38 : decode cX3_init_ 38 = .ok (.goto (-15), 3) := by decide +kernel
theorem dX3_init__41 : decode cX3_init_ 41 = .ok (.aload_n 0, 1) := by decide +kernel
theorem dX3_init__42 : decode cX3_init_ 42 = .ok (.iconst 0, 1) := by decide +kernel
theorem dX3_init__43 : decode cX3_init_ 43 = .ok (.putfield 24, 3) := by decide +kernel
theorem dX3_init__46 : decode cX3_init_ 46 = .ok (.aload_n 0, 1) := by decide +kernel
theorem dX3_init__47 : decode cX3_init_ 47 = .ok (.iconst 0, 1) := by decide +kernel
theorem dX3_init__48 : decode cX3_init_ 48 = .ok (.putfield 28, 3) := by decide +kernel
theorem dX3_init__51 : decode cX3_init_ 51 = .ok (.aload_n 0, 1) := by decide +kernel
theorem dX3_init__52 : decode cX3_init_ 52 = .ok (.iconst 0, 1) := by decide +kernel
theorem dX3_init__53 : decode cX3_init_ 53 = .ok (.putfield 31, 3) := by decide +kernel
theorem dX3_init__56 : decode cX3_init_ 56 = .ok (.aload_n 0, 1) := by decide +kernel
theorem dX3_init__57 : decode cX3_init_ 57 = .ok (.iconst 0, 1) := by decide +kernel
theorem dX3_init__58 : decode cX3_init_ 58 = .ok (.aload_n 0, 1) := by decide +kernel
theorem dX3_init__59 : decode cX3_init_ 59 = .ok (.ldc 34, 2) := by decide +kernel
theorem dX3_init__61 : decode cX3_init_ 61 = .ok (.invokevirtual 35, 3) := by decide +kernel
theorem dX3_init__64 : decode cX3_init_ 64 = .ok (.invokevirtual 39, 3) := by decide +kernel
theorem dX3_init__67 : decode cX3_init_ 67 = .ok (.return_, 1) := by decide +kernel
theorem dX3_isMultiplier_0 : decode cX3_isMultiplier 0 = .ok (.iload_n 0, 1) := by decide +kernel
theorem dX3_isMultiplier_1 : decode cX3_isMultiplier 1 = .ok (.sipush 304, 3) := by decide +kernel
theorem dX3_isMultiplier_4 : decode cX3_isMultiplier 4 = .ok (.if_icmp .lt 14, 3) := by decide +kernel
theorem dX3_isMultiplier_7 : decode cX3_isMultiplier 7 = .ok (.iload_n 0, 1) := by decide +kernel
theorem dX3_isMultiplier_8 : decode cX3_isMultiplier 8 = .ok (.sipush 320, 3) := by decide +kernel
theorem dX3_isMultiplier_11 : decode cX3_isMultiplier 11 = .ok (.if_icmp .ge 7, 3) := by decide +kernel
theorem dX3_isMultiplier_14 : decode cX3_isMultiplier 14 = .ok (.iconst 1, 1) := by decide +kernel
theorem dX3_isMultiplier_15 : decode cX3_isMultiplier 15 = .ok (.goto 4, 3) := by decide +kernel
theorem dX3_isMultiplier_18 : decode cX3_isMultiplier 18 = .ok (.iconst 0, 1) := by decide +kernel
theorem dX3_isMultiplier_19 : decode cX3_isMultiplier 19 = .ok (.ireturn, 1) := by decide +kernel
theorem dX3_which_0 : decode cX3_which 0 = .ok (.iload_n 0, 1) := by decide +kernel
theorem dX3_which_1 : decode cX3_which 1 = .ok (.sipush 312, 3) := by decide +kernel
theorem dX3_which_4 : decode cX3_which 4 = .ok (.if_icmp .ge 7, 3) := by decide +kernel
theorem dX3_which_7 : decode cX3_which 7 = .ok (.iconst 0, 1) := by decide +kernel
theorem dX3_which_8 : decode cX3_which 8 = .ok (.goto 12, 3) := by decide +kernel
theorem dX3_which_11 : decode cX3_which 11 = .ok (.iload_n 0, 1) := by decide +kernel
theorem dX3_which_12 : decode cX3_which 12 = .ok (.sipush 304, 3) := by decide +kernel
theorem dX3_which_15 : decode cX3_which 15 = .ok (.isub, 1) := by decide +kernel
theorem dX3_which_16 : decode cX3_which 16 = .ok (.iconst 2, 1) := by decide +kernel
theorem dX3_which_17 : decode cX3_which 17 = .ok (.idiv, 1) := by decide +kernel
theorem dX3_which_18 : decode cX3_which 18 = .ok (.iconst 3, 1) := by decide +kernel
theorem dX3_which_19 : decode cX3_which 19 = .ok (.isub, 1) := by decide +kernel
theorem dX3_which_20 : decode cX3_which 20 = .ok (.ireturn, 1) := by decide +kernel
set_option maxRecDepth 20000 in
theorem ggX3_wordAt_X3_isMultiplier : GoodIn wsX3_wordAt wsX3_isMultiplier := goodIn_r _ [7] (by decide +kernel) (by decide +kernel)
set_option maxRecDepth 20000 in
theorem gX3_wordAt_X3_isMultiplier : GoodIn wsX3_wordAt (va_wsS RX3 43 yX3_isMultiplier wsX3_isMultiplier) := goodIn_app (goodIn_of _ (by decide +kernel)) ggX3_wordAt_X3_isMultiplier
set_option maxRecDepth 20000 in
theorem ggX3_wordAt_X3_which : GoodIn wsX3_wordAt wsX3_which := goodIn_r _ [10] (by decide +kernel) (by decide +kernel)
set_option maxRecDepth 20000 in
theorem gX3_wordAt_X3_which : GoodIn wsX3_wordAt (va_wsS RX3 47 yX3_which wsX3_which) := goodIn_app (goodIn_of _ (by decide +kernel)) ggX3_wordAt_X3_which
theorem dX3_wordAt_0 : decode cX3_wordAt 0 = .ok (.iload_n 1, 1) := by decide +kernel
theorem dX3_wordAt_1 : decode cX3_wordAt 1 = .ok (.invokestatic 43, 3) := by decide +kernel
theorem dX3_wordAt_4 : decode cX3_wordAt 4 = .ok (.ifCond .eq 13, 3) := by decide +kernel
theorem dX3_wordAt_7 : decode cX3_wordAt 7 = .ok (.aload_n 0, 1) := by decide +kernel
theorem dX3_wordAt_8 : decode cX3_wordAt 8 = .ok (.getfield 18, 3) := by decide +kernel
theorem dX3_wordAt_11 : decode cX3_wordAt 11 = .ok (.iload_n 1, 1) := by decide +kernel
theorem dX3_wordAt_12 : decode cX3_wordAt 12 = .ok (.invokestatic 47, 3) := by decide +kernel
theorem dX3_wordAt_15 : decode cX3_wordAt 15 = .ok (.iaload, 1) := by decide +kernel
theorem dX3_wordAt_16 : decode cX3_wordAt 16 = .ok (.ireturn, 1) := by decide +kernel
theorem dX3_wordAt_17 : decode cX3_wordAt 17 = .ok (.aload_n 0, 1) := by decide +kernel
theorem dX3_wordAt_18 : decode cX3_wordAt 18 = .ok (.getfield 8, 3) := by decide +kernel
theorem dX3_wordAt_21 : decode cX3_wordAt 21 = .ok (.iload_n 1, 1) := by decide +kernel
theorem dX3_wordAt_22 : decode cX3_wordAt 22 = .ok (.iconst 1, 1) := by decide +kernel
theorem dX3_wordAt_23 : decode cX3_wordAt 23 = .ok (.ishr, 1) := by decide +kernel
theorem dX3_wordAt_24 : decode cX3_wordAt 24 = .ok (.saload, 1) := by decide +kernel
theorem dX3_wordAt_25 : decode cX3_wordAt 25 = .ok (.ldc 50, 2) := by decide +kernel
theorem dX3_wordAt_27 : decode cX3_wordAt 27 = .ok (.iand, 1) := by decide +kernel
theorem dX3_wordAt_28 : decode cX3_wordAt 28 = .ok (.ireturn, 1) := by decide +kernel
set_option maxRecDepth 20000 in
theorem ggX3_byteAt_X3_wordAt : GoodIn wsX3_byteAt wsX3_wordAt := goodIn_r _ [5, 6, 7, 8, 9, 10, 4, 11, 12, 13, 14, 15, 16, 17, 18, 19, 20, 21, 22, 23] (by decide +kernel) (by decide +kernel)
set_option maxRecDepth 20000 in
theorem gX3_byteAt_X3_wordAt : GoodIn wsX3_byteAt (wsV RX3 35 RX3 yX3_wordAt wsX3_wordAt) := goodIn_app (goodIn_of _ (by decide +kernel)) ggX3_byteAt_X3_wordAt
theorem dX3_byteAt_0 : decode cX3_byteAt 0 = .ok (.aload_n 0, 1) := by decide +kernel
theorem dX3_byteAt_1 : decode cX3_byteAt 1 = .ok (.iload_n 1, 1) := by decide +kernel
theorem dX3_byteAt_2 : decode cX3_byteAt 2 = .ok (.invokevirtual 35, 3) := by decide +kernel
theorem dX3_byteAt_5 : decode cX3_byteAt 5 = .ok (.bipush 8, 2) := by decide +kernel
theorem dX3_byteAt_7 : decode cX3_byteAt 7 = .ok (.iload_n 1, 1) := by decide +kernel
theorem dX3_byteAt_8 : decode cX3_byteAt 8 = .ok (.iconst 1, 1) := by decide +kernel
theorem dX3_byteAt_9 : decode cX3_byteAt 9 = .ok (.iand, 1) := by decide +kernel
theorem dX3_byteAt_10 : decode cX3_byteAt 10 = .ok (.imul, 1) := by decide +kernel
theorem dX3_byteAt_11 : decode cX3_byteAt 11 = .ok (.ishr, 1) := by decide +kernel
theorem dX3_byteAt_12 : decode cX3_byteAt 12 = .ok (.sipush 255, 3) := by decide +kernel
theorem dX3_byteAt_15 : decode cX3_byteAt 15 = .ok (.iand, 1) := by decide +kernel
theorem dX3_byteAt_16 : decode cX3_byteAt 16 = .ok (.ireturn, 1) := by decide +kernel
set_option maxRecDepth 20000 in
theorem ggX3_valueAt_X3_byteAt : GoodIn wsX3_valueAt wsX3_byteAt := goodIn_r _ [6, 7, 8, 9, 5, 10, 11, 12, 13, 14, 15, 16, 17, 18, 19, 20, 21, 22, 23, 24, 25, 26, 27, 28] (by decide +kernel) (by decide +kernel)
set_option maxRecDepth 20000 in
theorem gX3_valueAt_X3_byteAt : GoodIn wsX3_valueAt (wsV RX3 55 RX3 yX3_byteAt wsX3_byteAt) := goodIn_app (goodIn_of _ (by decide +kernel)) ggX3_valueAt_X3_byteAt
set_option maxRecDepth 20000 in
theorem ggX3_valueAt_X3_wordAt : GoodIn wsX3_valueAt wsX3_wordAt := goodIn_r _ [10, 11, 12, 13, 14, 15, 5, 16, 17, 18, 19, 20, 21, 22, 23, 24, 25, 26, 27, 28] (by decide +kernel) (by decide +kernel)
set_option maxRecDepth 20000 in
theorem gX3_valueAt_X3_wordAt : GoodIn wsX3_valueAt (wsV RX3 35 RX3 yX3_wordAt wsX3_wordAt) := goodIn_app (goodIn_of _ (by decide +kernel)) ggX3_valueAt_X3_wordAt
theorem dX3_valueAt_0 : decode cX3_valueAt 0 = .ok (.aload_n 0, 1) := by decide +kernel
theorem dX3_valueAt_1 : decode cX3_valueAt 1 = .ok (.getfield 51, 3) := by decide +kernel
theorem dX3_valueAt_4 : decode cX3_valueAt 4 = .ok (.ifCond .eq 11, 3) := by decide +kernel
theorem dX3_valueAt_7 : decode cX3_valueAt 7 = .ok (.aload_n 0, 1) := by decide +kernel
theorem dX3_valueAt_8 : decode cX3_valueAt 8 = .ok (.iload_n 1, 1) := by decide +kernel
theorem dX3_valueAt_9 : decode cX3_valueAt 9 = .ok (.invokevirtual 55, 3) := by decide +kernel
theorem dX3_valueAt_12 : decode cX3_valueAt 12 = .ok (.goto 8, 3) := by decide +kernel
theorem dX3_valueAt_15 : decode cX3_valueAt 15 = .ok (.aload_n 0, 1) := by decide +kernel
theorem dX3_valueAt_16 : decode cX3_valueAt 16 = .ok (.iload_n 1, 1) := by decide +kernel
theorem dX3_valueAt_17 : decode cX3_valueAt 17 = .ok (.invokevirtual 35, 3) := by decide +kernel
theorem dX3_valueAt_20 : decode cX3_valueAt 20 = .ok (.ireturn, 1) := by decide +kernel
theorem dX3_withByte_0 : decode cX3_withByte 0 = .ok (.iload_n 1, 1) := by decide +kernel
theorem dX3_withByte_1 : decode cX3_withByte 1 = .ok (.iconst 1, 1) := by decide +kernel
theorem dX3_withByte_2 : decode cX3_withByte 2 = .ok (.iand, 1) := by decide +kernel
theorem dX3_withByte_3 : decode cX3_withByte 3 = .ok (.ifCond .ne 12, 3) := by decide +kernel
theorem dX3_withByte_6 : decode cX3_withByte 6 = .ok (.iload_n 0, 1) := by decide +kernel
theorem dX3_withByte_7 : decode cX3_withByte 7 = .ok (.ldc 58, 2) := by decide +kernel
theorem dX3_withByte_9 : decode cX3_withByte 9 = .ok (.iand, 1) := by decide +kernel
theorem dX3_withByte_10 : decode cX3_withByte 10 = .ok (.iload_n 2, 1) := by decide +kernel
theorem dX3_withByte_11 : decode cX3_withByte 11 = .ok (.ior, 1) := by decide +kernel
theorem dX3_withByte_12 : decode cX3_withByte 12 = .ok (.goto 13, 3) := by decide +kernel
theorem dX3_withByte_15 : decode cX3_withByte 15 = .ok (.iload_n 0, 1) := by decide +kernel
theorem dX3_withByte_16 : decode cX3_withByte 16 = .ok (.sipush 255, 3) := by decide +kernel
theorem dX3_withByte_19 : decode cX3_withByte 19 = .ok (.iand, 1) := by decide +kernel
theorem dX3_withByte_20 : decode cX3_withByte 20 = .ok (.iload_n 2, 1) := by decide +kernel
theorem dX3_withByte_21 : decode cX3_withByte 21 = .ok (.bipush 8, 2) := by decide +kernel
theorem dX3_withByte_23 : decode cX3_withByte 23 = .ok (.ishl, 1) := by decide +kernel
theorem dX3_withByte_24 : decode cX3_withByte 24 = .ok (.ior, 1) := by decide +kernel
theorem dX3_withByte_25 : decode cX3_withByte 25 = .ok (.ireturn, 1) := by decide +kernel
set_option maxRecDepth 20000 in
theorem ggX3_setWord_X3_isMultiplier : GoodIn wsX3_setWord wsX3_isMultiplier := goodIn_r _ [5] (by decide +kernel) (by decide +kernel)
set_option maxRecDepth 20000 in
theorem gX3_setWord_X3_isMultiplier : GoodIn wsX3_setWord (va_wsS RX3 43 yX3_isMultiplier wsX3_isMultiplier) := goodIn_app (goodIn_of _ (by decide +kernel)) ggX3_setWord_X3_isMultiplier
set_option maxRecDepth 20000 in
theorem ggX3_setWord_X3_multiply : GoodIn wsX3_setWord wsX3_multiply := goodIn_r _ [9, 10, 11, 12, 13, 14, 4, 15, 16, 17, 18, 19, 20, 21, 22, 23, 24, 25, 26, 27] (by decide +kernel) (by decide +kernel)
set_option maxRecDepth 20000 in
theorem gX3_setWord_X3_multiply : GoodIn wsX3_setWord (wsV RX3 59 RX3 yX3_multiply wsX3_multiply) := goodIn_app (goodIn_of _ (by decide +kernel)) ggX3_setWord_X3_multiply
theorem dX3_setWord_0 : decode cX3_setWord 0 = .ok (.iload_n 1, 1) := by decide +kernel
theorem dX3_setWord_1 : decode cX3_setWord 1 = .ok (.invokestatic 43, 3) := by decide +kernel
theorem dX3_setWord_4 : decode cX3_setWord 4 = .ok (.ifCond .eq 18, 3) := by decide +kernel
theorem dX3_setWord_7 : decode cX3_setWord 7 = .ok (.aload_n 0, 1) := by decide +kernel
theorem dX3_setWord_8 : decode cX3_setWord 8 = .ok (.iload_n 1, 1) := by decide +kernel
theorem dX3_setWord_9 : decode cX3_setWord 9 = .ok (.sipush 304, 3) := by decide +kernel
theorem dX3_setWord_12 : decode cX3_setWord 12 = .ok (.isub, 1) := by decide +kernel
theorem dX3_setWord_13 : decode cX3_setWord 13 = .ok (.iconst 2, 1) := by decide +kernel
theorem dX3_setWord_14 : decode cX3_setWord 14 = .ok (.idiv, 1) := by decide +kernel
theorem dX3_setWord_15 : decode cX3_setWord 15 = .ok (.iload_n 2, 1) := by decide +kernel
theorem dX3_setWord_16 : decode cX3_setWord 16 = .ok (.invokevirtual 59, 3) := by decide +kernel
theorem dX3_setWord_19 : decode cX3_setWord 19 = .ok (.goto 13, 3) := by decide +kernel
theorem dX3_setWord_22 : decode cX3_setWord 22 = .ok (.aload_n 0, 1) := by decide +kernel
theorem dX3_setWord_23 : decode cX3_setWord 23 = .ok (.getfield 8, 3) := by decide +kernel
theorem dX3_setWord_26 : decode cX3_setWord 26 = .ok (.iload_n 1, 1) := by decide +kernel
theorem dX3_setWord_27 : decode cX3_setWord 27 = .ok (.iconst 1, 1) := by decide +kernel
theorem dX3_setWord_28 : decode cX3_setWord 28 = .ok (.ishr, 1) := by decide +kernel
theorem dX3_setWord_29 : decode cX3_setWord 29 = .ok (.iload_n 2, 1) := by decide +kernel
theorem dX3_setWord_30 : decode cX3_setWord 30 = .ok (.i2s, 1) := by decide +kernel
theorem dX3_setWord_31 : decode cX3_setWord 31 = .ok (.sastore, 1) := by decide +kernel
theorem dX3_setWord_32 : decode cX3_setWord 32 = .ok (.return_, 1) := by decide +kernel
set_option maxRecDepth 20000 in
theorem ggX3_setByte_X3_isMultiplier : GoodIn wsX3_setByte wsX3_isMultiplier := goodIn_r _ [6] (by decide +kernel) (by decide +kernel)
set_option maxRecDepth 20000 in
theorem gX3_setByte_X3_isMultiplier : GoodIn wsX3_setByte (va_wsS RX3 43 yX3_isMultiplier wsX3_isMultiplier) := goodIn_app (goodIn_of _ (by decide +kernel)) ggX3_setByte_X3_isMultiplier
set_option maxRecDepth 20000 in
theorem ggX3_setByte_X3_withByte : GoodIn wsX3_setByte wsX3_withByte := goodIn_r _ [9, 10] (by decide +kernel) (by decide +kernel)
set_option maxRecDepth 20000 in
theorem gX3_setByte_X3_withByte : GoodIn wsX3_setByte (va_wsS RX3 62 yX3_withByte wsX3_withByte) := goodIn_app (goodIn_of _ (by decide +kernel)) ggX3_setByte_X3_withByte
set_option maxRecDepth 20000 in
theorem ggX3_setByte_X3_multiply : GoodIn wsX3_setByte wsX3_multiply := goodIn_r _ [14, 15, 16, 17, 18, 19, 5, 20, 21, 22, 2, 23, 24, 25, 26, 27, 28, 29, 30, 31] (by decide +kernel) (by decide +kernel)
set_option maxRecDepth 20000 in
theorem gX3_setByte_X3_multiply : GoodIn wsX3_setByte (wsV RX3 59 RX3 yX3_multiply wsX3_multiply) := goodIn_app (goodIn_of _ (by decide +kernel)) ggX3_setByte_X3_multiply
theorem dX3_setByte_0 : decode cX3_setByte 0 = .ok (.iload_n 1, 1) := by decide +kernel
theorem dX3_setByte_1 : decode cX3_setByte 1 = .ok (.invokestatic 43, 3) := by decide +kernel
theorem dX3_setByte_4 : decode cX3_setByte 4 = .ok (.ifCond .ne 31, 3) := by decide +kernel
theorem dX3_setByte_7 : decode cX3_setByte 7 = .ok (.aload_n 0, 1) := by decide +kernel
theorem dX3_setByte_8 : decode cX3_setByte 8 = .ok (.getfield 8, 3) := by decide +kernel
theorem dX3_setByte_11 : decode cX3_setByte 11 = .ok (.iload_n 1, 1) := by decide +kernel
theorem dX3_setByte_12 : decode cX3_setByte 12 = .ok (.iconst 1, 1) := by decide +kernel
theorem dX3_setByte_13 : decode cX3_setByte 13 = .ok (.ishr, 1) := by decide +kernel
theorem dX3_setByte_14 : decode cX3_setByte 14 = .ok (.aload_n 0, 1) := by decide +kernel
theorem dX3_setByte_15 : decode cX3_setByte 15 = .ok (.getfield 8, 3) := by decide +kernel
theorem dX3_setByte_18 : decode cX3_setByte 18 = .ok (.iload_n 1, 1) := by decide +kernel
theorem dX3_setByte_19 : decode cX3_setByte 19 = .ok (.iconst 1, 1) := by decide +kernel
theorem dX3_setByte_20 : decode cX3_setByte 20 = .ok (.ishr, 1) := by decide +kernel
theorem dX3_setByte_21 : decode cX3_setByte 21 = .ok (.saload, 1) := by decide +kernel
theorem dX3_setByte_22 : decode cX3_setByte 22 = .ok (.ldc 50, 2) := by decide +kernel
theorem dX3_setByte_24 : decode cX3_setByte 24 = .ok (.iand, 1) := by decide +kernel
theorem dX3_setByte_25 : decode cX3_setByte 25 = .ok (.iload_n 1, 1) := by decide +kernel
theorem dX3_setByte_26 : decode cX3_setByte 26 = .ok (.iload_n 2, 1) := by decide +kernel
theorem dX3_setByte_27 : decode cX3_setByte 27 = .ok (.invokestatic 62, 3) := by decide +kernel
theorem dX3_setByte_30 : decode cX3_setByte 30 = .ok (.i2s, 1) := by decide +kernel
theorem dX3_setByte_31 : decode cX3_setByte 31 = .ok (.sastore, 1) := by decide +kernel
theorem dX3_setByte_32 : decode cX3_setByte 32 = .ok (.goto 21, 3) := by decide +kernel
theorem dX3_setByte_35 : decode cX3_setByte 35 = .ok (.iload_n 1, 1) := by decide +kernel
theorem dX3_setByte_36 : decode cX3_setByte 36 = .ok (.iconst 1, 1) := by decide +kernel
theorem dX3_setByte_37 : decode cX3_setByte 37 = .ok (.iand, 1) := by decide +kernel
theorem dX3_setByte_38 : decode cX3_setByte 38 = .ok (.ifCond .ne 15, 3) := by decide +kernel
theorem dX3_setByte_41 : decode cX3_setByte 41 = .ok (.aload_n 0, 1) := by decide +kernel
theorem dX3_setByte_42 : decode cX3_setByte 42 = .ok (.iload_n 1, 1) := by decide +kernel
theorem dX3_setByte_43 : decode cX3_setByte 43 = .ok (.sipush 304, 3) := by decide +kernel
theorem dX3_setByte_46 : decode cX3_setByte 46 = .ok (.isub, 1) := by decide +kernel
theorem dX3_setByte_47 : decode cX3_setByte 47 = .ok (.iconst 2, 1) := by decide +kernel
theorem dX3_setByte_48 : decode cX3_setByte 48 = .ok (.idiv, 1) := by decide +kernel
theorem dX3_setByte_49 : decode cX3_setByte 49 = .ok (.iload_n 2, 1) := by decide +kernel
theorem dX3_setByte_50 : decode cX3_setByte 50 = .ok (.invokevirtual 59, 3) := by decide +kernel
theorem dX3_setByte_53 : decode cX3_setByte 53 = .ok (.return_, 1) := by decide +kernel
set_option maxRecDepth 20000 in
theorem ggX3_multiply_X3_product : GoodIn wsX3_multiply wsX3_product := goodIn_r _ [7, 2, 1, 8, 9, 10, 11, 12, 13, 14, 15, 16, 17, 18, 19] (by decide +kernel) (by decide +kernel)
set_option maxRecDepth 20000 in
theorem gX3_multiply_X3_product : GoodIn wsX3_multiply (wsV RX3 66 RX3 yX3_product wsX3_product) := goodIn_app (goodIn_of _ (by decide +kernel)) ggX3_multiply_X3_product
theorem dX3_multiply_0 : decode cX3_multiply 0 = .ok (.iload_n 1, 1) := by decide +kernel
theorem dX3_multiply_1 : decode cX3_multiply 1 = .ok (.iconst 4, 1) := by decide +kernel
theorem dX3_multiply_2 : decode cX3_multiply 2 = .ok (.if_icmp .ge 18, 3) := by decide +kernel
theorem dX3_multiply_5 : decode cX3_multiply 5 = .ok (.aload_n 0, 1) := by decide +kernel
theorem dX3_multiply_6 : decode cX3_multiply 6 = .ok (.getfield 18, 3) := by decide +kernel
theorem dX3_multiply_9 : decode cX3_multiply 9 = .ok (.iconst 0, 1) := by decide +kernel
theorem dX3_multiply_10 : decode cX3_multiply 10 = .ok (.iload_n 2, 1) := by decide +kernel
theorem dX3_multiply_11 : decode cX3_multiply 11 = .ok (.iastore, 1) := by decide +kernel
theorem dX3_multiply_12 : decode cX3_multiply 12 = .ok (.aload_n 0, 1) := by decide +kernel
theorem dX3_multiply_13 : decode cX3_multiply 13 = .ok (.iload_n 1, 1) := by decide +kernel
theorem dX3_multiply_14 : decode cX3_multiply 14 = .ok (.putfield 24, 3) := by decide +kernel
theorem dX3_multiply_17 : decode cX3_multiply 17 = .ok (.goto 37, 3) := by decide +kernel
theorem dX3_multiply_20 : decode cX3_multiply 20 = .ok (.iload_n 1, 1) := by decide +kernel
theorem dX3_multiply_21 : decode cX3_multiply 21 = .ok (.iconst 4, 1) := by decide +kernel
theorem dX3_multiply_22 : decode cX3_multiply 22 = .ok (.if_icmp .ne 17, 3) := by decide +kernel
theorem dX3_multiply_25 : decode cX3_multiply 25 = .ok (.aload_n 0, 1) := by decide +kernel
theorem dX3_multiply_26 : decode cX3_multiply 26 = .ok (.getfield 18, 3) := by decide +kernel
theorem dX3_multiply_29 : decode cX3_multiply 29 = .ok (.iconst 1, 1) := by decide +kernel
theorem dX3_multiply_30 : decode cX3_multiply 30 = .ok (.iload_n 2, 1) := by decide +kernel
theorem dX3_multiply_31 : decode cX3_multiply 31 = .ok (.iastore, 1) := by decide +kernel
theorem dX3_multiply_32 : decode cX3_multiply 32 = .ok (.aload_n 0, 1) := by decide +kernel
theorem dX3_multiply_33 : decode cX3_multiply 33 = .ok (.invokevirtual 66, 3) := by decide +kernel
theorem dX3_multiply_36 : decode cX3_multiply 36 = .ok (.goto 18, 3) := by decide +kernel
theorem dX3_multiply_39 : decode cX3_multiply 39 = .ok (.iload_n 1, 1) := by decide +kernel
theorem dX3_multiply_40 : decode cX3_multiply 40 = .ok (.bipush 7, 2) := by decide +kernel
theorem dX3_multiply_42 : decode cX3_multiply 42 = .ok (.if_icmp .ge 12, 3) := by decide +kernel
theorem dX3_multiply_45 : decode cX3_multiply 45 = .ok (.aload_n 0, 1) := by decide +kernel
theorem dX3_multiply_46 : decode cX3_multiply 46 = .ok (.getfield 18, 3) := by decide +kernel
theorem dX3_multiply_49 : decode cX3_multiply 49 = .ok (.iload_n 1, 1) := by decide +kernel
theorem dX3_multiply_50 : decode cX3_multiply 50 = .ok (.iconst 3, 1) := by decide +kernel
theorem dX3_multiply_51 : decode cX3_multiply 51 = .ok (.isub, 1) := by decide +kernel
theorem dX3_multiply_52 : decode cX3_multiply 52 = .ok (.iload_n 2, 1) := by decide +kernel
theorem dX3_multiply_53 : decode cX3_multiply 53 = .ok (.iastore, 1) := by decide +kernel
theorem dX3_multiply_54 : decode cX3_multiply 54 = .ok (.return_, 1) := by decide +kernel
theorem dX3_product_0 : decode cX3_product 0 = .ok (.aload_n 0, 1) := by decide +kernel
theorem dX3_product_1 : decode cX3_product 1 = .ok (.getfield 24, 3) := by decide +kernel
theorem dX3_product_4 : decode cX3_product 4 = .ok (.iconst 2, 1) := by decide +kernel
theorem dX3_product_5 : decode cX3_product 5 = .ok (.irem, 1) := by decide +kernel
theorem dX3_product_6 : decode cX3_product 6 = .ok (.ifCond .ne 13, 3) := by decide +kernel
theorem dX3_product_9 : decode cX3_product 9 = .ok (.aload_n 0, 1) := by decide +kernel
theorem dX3_product_10 : decode cX3_product 10 = .ok (.getfield 18, 3) := by decide +kernel
theorem dX3_product_13 : decode cX3_product 13 = .ok (.iconst 0, 1) := by decide +kernel
theorem dX3_product_14 : decode cX3_product 14 = .ok (.iaload, 1) := by decide +kernel
theorem dX3_product_15 : decode cX3_product 15 = .ok (.i2l, 1) := by decide +kernel
theorem dX3_product_16 : decode cX3_product 16 = .ok (.goto 11, 3) := by decide +kernel
theorem dX3_product_19 : decode cX3_product 19 = .ok (.aload_n 0, 1) := by decide +kernel
theorem dX3_product_20 : decode cX3_product 20 = .ok (.getfield 18, 3) := by decide +kernel
theorem dX3_product_23 : decode cX3_product 23 = .ok (.iconst 0, 1) := by decide +kernel
theorem dX3_product_24 : decode cX3_product 24 = .ok (.iaload, 1) := by decide +kernel
theorem dX3_product_25 : decode cX3_product 25 = .ok (.i2s, 1) := by decide +kernel
theorem dX3_product_26 : decode cX3_product 26 = .ok (.i2l, 1) := by decide +kernel
theorem dX3_product_27 : decode cX3_product 27 = .ok (.lstore_n 1, 1) := by decide +kernel
theorem dX3_product_28 : decode cX3_product 28 = .ok (.aload_n 0, 1) := by decide +kernel
theorem dX3_product_29 : decode cX3_product 29 = .ok (.getfield 24, 3) := by decide +kernel
theorem dX3_product_32 : decode cX3_product 32 = .ok (.iconst 2, 1) := by decide +kernel
theorem dX3_product_33 : decode cX3_product 33 = .ok (.irem, 1) := by decide +kernel
theorem dX3_product_34 : decode cX3_product 34 = .ok (.ifCond .ne 13, 3) := by decide +kernel
theorem dX3_product_37 : decode cX3_product 37 = .ok (.aload_n 0, 1) := by decide +kernel
theorem dX3_product_38 : decode cX3_product 38 = .ok (.getfield 18, 3) := by decide +kernel
theorem dX3_product_41 : decode cX3_product 41 = .ok (.iconst 1, 1) := by decide +kernel
theorem dX3_product_42 : decode cX3_product 42 = .ok (.iaload, 1) := by decide +kernel
theorem dX3_product_43 : decode cX3_product 43 = .ok (.i2l, 1) := by decide +kernel
theorem dX3_product_44 : decode cX3_product 44 = .ok (.goto 11, 3) := by decide +kernel
theorem dX3_product_47 : decode cX3_product 47 = .ok (.aload_n 0, 1) := by decide +kernel
theorem dX3_product_48 : decode cX3_product 48 = .ok (.getfield 18, 3) := by decide +kernel
theorem dX3_product_51 : decode cX3_product 51 = .ok (.iconst 1, 1) := by decide +kernel
theorem dX3_product_52 : decode cX3_product 52 = .ok (.iaload, 1) := by decide +kernel
theorem dX3_product_53 : decode cX3_product 53 = .ok (.i2s, 1) := by decide +kernel
theorem dX3_product_54 : decode cX3_product 54 = .ok (.i2l, 1) := by decide +kernel
theorem dX3_product_55 : decode cX3_product 55 = .ok (.lstore_n 3, 1) := by decide +kernel
theorem dX3_product_56 : decode cX3_product 56 = .ok (.lload_n 1, 1) := by decide +kernel
theorem dX3_product_57 : decode cX3_product 57 = .ok (.lload_n 3, 1) := by decide +kernel
theorem dX3_product_58 : decode cX3_product 58 = .ok (.lmul, 1) := by decide +kernel
theorem dX3_product_59 : decode cX3_product 59 = .ok (.lstore 5, 2) := by decide +kernel
theorem dX3_product_61 : decode cX3_product 61 = .ok (.aload_n 0, 1) := by decide +kernel
theorem dX3_product_62 : decode cX3_product 62 = .ok (.getfield 24, 3) := by decide +kernel
theorem dX3_product_65 : decode cX3_product 65 = .ok (.iconst 2, 1) := by decide +kernel
theorem dX3_product_66 : decode cX3_product 66 = .ok (.if_icmp .ge 7, 3) := by decide +kernel
theorem dX3_product_69 : decode cX3_product 69 = .ok (.lconst 0, 1) := by decide +kernel
theorem dX3_product_70 : decode cX3_product 70 = .ok (.goto 21, 3) := by decide +kernel
theorem dX3_product_73 : decode cX3_product 73 = .ok (.aload_n 0, 1) := by decide +kernel
theorem dX3_product_74 : decode cX3_product 74 = .ok (.getfield 18, 3) := by decide +kernel
theorem dX3_product_77 : decode cX3_product 77 = .ok (.iconst 3, 1) := by decide +kernel
theorem dX3_product_78 : decode cX3_product 78 = .ok (.iaload, 1) := by decide +kernel
theorem dX3_product_79 : decode cX3_product 79 = .ok (.i2l, 1) := by decide +kernel
theorem dX3_product_80 : decode cX3_product 80 = .ok (.bipush 16, 2) := by decide +kernel
theorem dX3_product_82 : decode cX3_product 82 = .ok (.lshl, 1) := by decide +kernel
theorem dX3_product_83 : decode cX3_product 83 = .ok (.aload_n 0, 1) := by decide +kernel
theorem dX3_product_84 : decode cX3_product 84 = .ok (.getfield 18, 3) := by decide +kernel
theorem dX3_product_87 : decode cX3_product 87 = .ok (.iconst 2, 1) := by decide +kernel
theorem dX3_product_88 : decode cX3_product 88 = .ok (.iaload, 1) := by decide +kernel
theorem dX3_product_89 : decode cX3_product 89 = .ok (.i2l, 1) := by decide +kernel
theorem dX3_product_90 : decode cX3_product 90 = .ok (.lor, 1) := by decide +kernel
theorem dX3_product_91 : decode cX3_product 91 = .ok (.lstore 7, 2) := by decide +kernel
theorem dX3_product_93 : decode cX3_product 93 = .ok (.lload 7, 2) := by decide +kernel
theorem dX3_product_95 : decode cX3_product 95 = .ok (.lload 5, 2) := by decide +kernel
theorem dX3_product_97 : decode cX3_product 97 = .ok (.ldc2_w 69, 3) := by decide +kernel
theorem dX3_product_100 : decode cX3_product 100 = .ok (.land, 1) := by decide +kernel
theorem dX3_product_101 : decode cX3_product 101 = .ok (.ladd, 1) := by decide +kernel
theorem dX3_product_102 : decode cX3_product 102 = .ok (.lstore 9, 2) := by decide +kernel
theorem dX3_product_104 : decode cX3_product 104 = .ok (.aload_n 0, 1) := by decide +kernel
theorem dX3_product_105 : decode cX3_product 105 = .ok (.getfield 18, 3) := by decide +kernel
theorem dX3_product_108 : decode cX3_product 108 = .ok (.iconst 2, 1) := by decide +kernel
theorem dX3_product_109 : decode cX3_product 109 = .ok (.lload 9, 2) := by decide +kernel
theorem dX3_product_111 : decode cX3_product 111 = .ok (.ldc2_w 71, 3) := by decide +kernel
theorem dX3_product_114 : decode cX3_product 114 = .ok (.land, 1) := by decide +kernel
theorem dX3_product_115 : decode cX3_product 115 = .ok (.l2i, 1) := by decide +kernel
theorem dX3_product_116 : decode cX3_product 116 = .ok (.iastore, 1) := by decide +kernel
theorem dX3_product_117 : decode cX3_product 117 = .ok (.aload_n 0, 1) := by decide +kernel
theorem dX3_product_118 : decode cX3_product 118 = .ok (.getfield 18, 3) := by decide +kernel
theorem dX3_product_121 : decode cX3_product 121 = .ok (.iconst 3, 1) := by decide +kernel
theorem dX3_product_122 : decode cX3_product 122 = .ok (.lload 9, 2) := by decide +kernel
theorem dX3_product_124 : decode cX3_product 124 = .ok (.bipush 16, 2) := by decide +kernel
theorem dX3_product_126 : decode cX3_product 126 = .ok (.lshr, 1) := by decide +kernel
theorem dX3_product_127 : decode cX3_product 127 = .ok (.ldc2_w 71, 3) := by decide +kernel
theorem dX3_product_130 : decode cX3_product 130 = .ok (.land, 1) := by decide +kernel
theorem dX3_product_131 : decode cX3_product 131 = .ok (.l2i, 1) := by decide +kernel
theorem dX3_product_132 : decode cX3_product 132 = .ok (.iastore, 1) := by decide +kernel
theorem dX3_product_133 : decode cX3_product 133 = .ok (.aload_n 0, 1) := by decide +kernel
theorem dX3_product_134 : decode cX3_product 134 = .ok (.getfield 24, 3) := by decide +kernel
theorem dX3_product_137 : decode cX3_product 137 = .ok (.iconst 2, 1) := by decide +kernel
theorem dX3_product_138 : decode cX3_product 138 = .ok (.if_icmp .ne 18, 3) := by decide +kernel
theorem dX3_product_141 : decode cX3_product 141 = .ok (.aload_n 0, 1) := by decide +kernel
theorem dX3_product_142 : decode cX3_product 142 = .ok (.getfield 18, 3) := by decide +kernel
theorem dX3_product_145 : decode cX3_product 145 = .ok (.iconst 4, 1) := by decide +kernel
theorem dX3_product_146 : decode cX3_product 146 = .ok (.lload 9, 2) := by decide +kernel
theorem dX3_product_148 : decode cX3_product 148 = .ok (.bipush 32, 2) := by decide +kernel
theorem dX3_product_150 : decode cX3_product 150 = .ok (.lshr, 1) := by decide +kernel
theorem dX3_product_151 : decode cX3_product 151 = .ok (.l2i, 1) := by decide +kernel
theorem dX3_product_152 : decode cX3_product 152 = .ok (.iastore, 1) := by decide +kernel
theorem dX3_product_153 : decode cX3_product 153 = .ok (.goto 55, 3) := by decide +kernel
theorem dX3_product_156 : decode cX3_product 156 = .ok (.aload_n 0, 1) := by decide +kernel
theorem dX3_product_157 : decode cX3_product 157 = .ok (.getfield 18, 3) := by decide +kernel
theorem dX3_product_160 : decode cX3_product 160 = .ok (.iconst 4, 1) := by decide +kernel
theorem dX3_product_161 : decode cX3_product 161 = .ok (.aload_n 0, 1) := by decide +kernel
theorem dX3_product_162 : decode cX3_product 162 = .ok (.getfield 24, 3) := by decide +kernel
theorem dX3_product_165 : decode cX3_product 165 = .ok (.iconst 2, 1) := by decide +kernel
theorem dX3_product_166 : decode cX3_product 166 = .ok (.irem, 1) := by decide +kernel
theorem dX3_product_167 : decode cX3_product 167 = .ok (.iconst 1, 1) := by decide +kernel
theorem dX3_product_168 : decode cX3_product 168 = .ok (.if_icmp .ne 38, 3) := by decide +kernel
theorem dX3_product_171 : decode cX3_product 171 = .ok (.aload_n 0, 1) := by decide +kernel
theorem dX3_product_172 : decode cX3_product 172 = .ok (.getfield 24, 3) := by decide +kernel
theorem dX3_product_175 : decode cX3_product 175 = .ok (.iconst 1, 1) := by decide +kernel
theorem dX3_product_176 : decode cX3_product 176 = .ok (.if_icmp .ne 13, 3) := by decide +kernel
theorem dX3_product_179 : decode cX3_product 179 = .ok (.lload 5, 2) := by decide +kernel
theorem dX3_product_181 : decode cX3_product 181 = .ok (.lconst 0, 1) := by decide +kernel
theorem dX3_product_182 : decode cX3_product 182 = .ok (.lcmp, 1) := by decide +kernel
theorem dX3_product_183 : decode cX3_product 183 = .ok (.ifCond .ge 23, 3) := by decide +kernel
theorem dX3_product_186 : decode cX3_product 186 = .ok (.goto 15, 3) := by decide +kernel
theorem dX3_product_189 : decode cX3_product 189 = .ok (.aload_n 0, 1) := by decide +kernel
theorem dX3_product_190 : decode cX3_product 190 = .ok (.getfield 18, 3) := by decide +kernel
theorem dX3_product_193 : decode cX3_product 193 = .ok (.iconst 3, 1) := by decide +kernel
theorem dX3_product_194 : decode cX3_product 194 = .ok (.iaload, 1) := by decide +kernel
theorem dX3_product_195 : decode cX3_product 195 = .ok (.sipush 32767, 3) := by decide +kernel
theorem dX3_product_198 : decode cX3_product 198 = .ok (.if_icmp .le 8, 3) := by decide +kernel
theorem dX3_product_201 : decode cX3_product 201 = .ok (.ldc 50, 2) := by decide +kernel
theorem dX3_product_203 : decode cX3_product 203 = .ok (.goto 4, 3) := by decide +kernel
theorem dX3_product_206 : decode cX3_product 206 = .ok (.iconst 0, 1) := by decide +kernel
theorem dX3_product_207 : decode cX3_product 207 = .ok (.iastore, 1) := by decide +kernel
theorem dX3_product_208 : decode cX3_product 208 = .ok (.return_, 1) := by decide +kernel
theorem dX3_setRegister_0 : decode cX3_setRegister 0 = .ok (.iload_n 1, 1) := by decide +kernel
theorem dX3_setRegister_1 : decode cX3_setRegister 1 = .ok (.iconst 3, 1) := by decide +kernel
theorem dX3_setRegister_2 : decode cX3_setRegister 2 = .ok (.if_icmp .eq 24, 3) := by decide +kernel
theorem dX3_setRegister_5 : decode cX3_setRegister 5 = .ok (.aload_n 0, 1) := by decide +kernel
theorem dX3_setRegister_6 : decode cX3_setRegister 6 = .ok (.getfield 14, 3) := by decide +kernel
theorem dX3_setRegister_9 : decode cX3_setRegister 9 = .ok (.iload_n 1, 1) := by decide +kernel
theorem dX3_setRegister_10 : decode cX3_setRegister 10 = .ok (.iload_n 1, 1) := by decide +kernel
theorem dX3_setRegister_11 : decode cX3_setRegister 11 = .ok (.ifCond .ne 10, 3) := by decide +kernel
theorem dX3_setRegister_14 : decode cX3_setRegister 14 = .ok (.iload_n 2, 1) := by decide +kernel
theorem dX3_setRegister_15 : decode cX3_setRegister 15 = .ok (.ldc 34, 2) := by decide +kernel
theorem dX3_setRegister_17 : decode cX3_setRegister 17 = .ok (.iand, 1) := by decide +kernel
theorem dX3_setRegister_18 : decode cX3_setRegister 18 = .ok (.goto 7, 3) := by decide +kernel
theorem dX3_setRegister_21 : decode cX3_setRegister 21 = .ok (.iload_n 2, 1) := by decide +kernel
theorem dX3_setRegister_22 : decode cX3_setRegister 22 = .ok (.ldc 50, 2) := by decide +kernel
theorem dX3_setRegister_24 : decode cX3_setRegister 24 = .ok (.iand, 1) := by decide +kernel
theorem dX3_setRegister_25 : decode cX3_setRegister 25 = .ok (.iastore, 1) := by decide +kernel
theorem dX3_setRegister_26 : decode cX3_setRegister 26 = .ok (.return_, 1) := by decide +kernel
set_option maxRecDepth 20000 in
theorem ggX3_write_X3_setRegister : GoodIn wsX3_write wsX3_setRegister := goodIn_r _ [7, 8, 9, 10, 39, 40, 41, 42, 43, 44, 45, 46, 47] (by decide +kernel) (by decide +kernel)
set_option maxRecDepth 20000 in
theorem gX3_write_X3_setRegister : GoodIn wsX3_write (wsV RX3 39 RX3 yX3_setRegister wsX3_setRegister) := goodIn_app (goodIn_of _ (by decide +kernel)) ggX3_write_X3_setRegister
set_option maxRecDepth 20000 in
theorem ggX3_write_X3_setByte : GoodIn wsX3_write wsX3_setByte := goodIn_r _ [14, 15, 10, 16, 17, 6, 18, 19, 20, 21, 22, 23, 24, 25, 26, 27, 28, 29, 30, 31, 32, 33, 34, 39, 40, 41, 42, 43, 44, 45, 46, 47] (by decide +kernel) (by decide +kernel)
set_option maxRecDepth 20000 in
theorem gX3_write_X3_setByte : GoodIn wsX3_write (wsV RX3 74 RX3 yX3_setByte wsX3_setByte) := goodIn_app (goodIn_of _ (by decide +kernel)) ggX3_write_X3_setByte
set_option maxRecDepth 20000 in
theorem ggX3_write_X3_setWord : GoodIn wsX3_write wsX3_setWord := goodIn_r _ [38, 15, 16, 17, 6, 18, 23, 24, 25, 26, 27, 28, 29, 30, 31, 32, 33, 34, 10, 39, 40, 41, 42, 43, 44, 45, 46, 47] (by decide +kernel) (by decide +kernel)
set_option maxRecDepth 20000 in
theorem gX3_write_X3_setWord : GoodIn wsX3_write (wsV RX3 77 RX3 yX3_setWord wsX3_setWord) := goodIn_app (goodIn_of _ (by decide +kernel)) ggX3_write_X3_setWord
theorem dX3_write_0 : decode cX3_write 0 = .ok (.iload_n 1, 1) := by decide +kernel
theorem dX3_write_1 : decode cX3_write 1 = .ok (.bipush 16, 2) := by decide +kernel
theorem dX3_write_3 : decode cX3_write 3 = .ok (.if_icmp .ge 12, 3) := by decide +kernel
theorem dX3_write_6 : decode cX3_write 6 = .ok (.aload_n 0, 1) := by decide +kernel
theorem dX3_write_7 : decode cX3_write 7 = .ok (.iload_n 1, 1) := by decide +kernel
theorem dX3_write_8 : decode cX3_write 8 = .ok (.iload_n 2, 1) := by decide +kernel
theorem dX3_write_9 : decode cX3_write 9 = .ok (.invokevirtual 39, 3) := by decide +kernel
theorem dX3_write_12 : decode cX3_write 12 = .ok (.goto 43, 3) := by decide +kernel
theorem dX3_write_15 : decode cX3_write 15 = .ok (.iload_n 1, 1) := by decide +kernel
theorem dX3_write_16 : decode cX3_write 16 = .ok (.ldc 73, 2) := by decide +kernel
theorem dX3_write_18 : decode cX3_write 18 = .ok (.if_icmp .lt 22, 3) := by decide +kernel
theorem dX3_write_21 : decode cX3_write 21 = .ok (.aload_n 0, 1) := by decide +kernel
theorem dX3_write_22 : decode cX3_write 22 = .ok (.getfield 51, 3) := by decide +kernel
theorem dX3_write_25 : decode cX3_write 25 = .ok (.ifCond .eq 15, 3) := by decide +kernel
theorem dX3_write_28 : decode cX3_write 28 = .ok (.aload_n 0, 1) := by decide +kernel
theorem dX3_write_29 : decode cX3_write 29 = .ok (.iload_n 1, 1) := by decide +kernel
theorem dX3_write_30 : decode cX3_write 30 = .ok (.ldc 73, 2) := by decide +kernel
theorem dX3_write_32 : decode cX3_write 32 = .ok (.isub, 1) := by decide +kernel
theorem dX3_write_33 : decode cX3_write 33 = .ok (.iload_n 2, 1) := by decide +kernel
theorem dX3_write_34 : decode cX3_write 34 = .ok (.invokevirtual 74, 3) := by decide +kernel
theorem dX3_write_37 : decode cX3_write 37 = .ok (.goto 18, 3) := by decide +kernel
theorem dX3_write_40 : decode cX3_write 40 = .ok (.iload_n 1, 1) := by decide +kernel
theorem dX3_write_41 : decode cX3_write 41 = .ok (.ldc 73, 2) := by decide +kernel
theorem dX3_write_43 : decode cX3_write 43 = .ok (.if_icmp .lt 12, 3) := by decide +kernel
theorem dX3_write_46 : decode cX3_write 46 = .ok (.aload_n 0, 1) := by decide +kernel
theorem dX3_write_47 : decode cX3_write 47 = .ok (.iload_n 1, 1) := by decide +kernel
theorem dX3_write_48 : decode cX3_write 48 = .ok (.ldc 73, 2) := by decide +kernel
theorem dX3_write_50 : decode cX3_write 50 = .ok (.isub, 1) := by decide +kernel
theorem dX3_write_51 : decode cX3_write 51 = .ok (.iload_n 2, 1) := by decide +kernel
theorem dX3_write_52 : decode cX3_write 52 = .ok (.invokevirtual 77, 3) := by decide +kernel
theorem dX3_write_55 : decode cX3_write 55 = .ok (.return_, 1) := by decide +kernel
set_option maxRecDepth 20000 in
theorem ggX3_taken_X3_wordAt : GoodIn wsX3_taken wsX3_wordAt := goodIn_r _ [6, 7, 8, 9, 10, 11, 5, 12, 13, 14, 15, 21, 22, 23, 24, 25, 26, 27, 28, 29] (by decide +kernel) (by decide +kernel)
set_option maxRecDepth 20000 in
theorem gX3_taken_X3_wordAt : GoodIn wsX3_taken (wsV RX3 35 RX3 yX3_wordAt wsX3_wordAt) := goodIn_app (goodIn_of _ (by decide +kernel)) ggX3_taken_X3_wordAt
set_option maxRecDepth 20000 in
theorem ggX3_taken_X3_setRegister : GoodIn wsX3_taken wsX3_setRegister := goodIn_r _ [19, 1, 20, 9, 21, 22, 23, 24, 25, 26, 27, 28, 29] (by decide +kernel) (by decide +kernel)
set_option maxRecDepth 20000 in
theorem gX3_taken_X3_setRegister : GoodIn wsX3_taken (wsV RX3 39 RX3 yX3_setRegister wsX3_setRegister) := goodIn_app (goodIn_of _ (by decide +kernel)) ggX3_taken_X3_setRegister
theorem dX3_taken_0 : decode cX3_taken 0 = .ok (.aload_n 0, 1) := by decide +kernel
theorem dX3_taken_1 : decode cX3_taken 1 = .ok (.aload_n 0, 1) := by decide +kernel
theorem dX3_taken_2 : decode cX3_taken 2 = .ok (.getfield 14, 3) := by decide +kernel
theorem dX3_taken_5 : decode cX3_taken 5 = .ok (.iconst 0, 1) := by decide +kernel
theorem dX3_taken_6 : decode cX3_taken 6 = .ok (.iaload, 1) := by decide +kernel
theorem dX3_taken_7 : decode cX3_taken 7 = .ok (.invokevirtual 35, 3) := by decide +kernel
theorem dX3_taken_10 : decode cX3_taken 10 = .ok (.istore_n 1, 1) := by decide +kernel
theorem dX3_taken_11 : decode cX3_taken 11 = .ok (.aload_n 0, 1) := by decide +kernel
theorem dX3_taken_12 : decode cX3_taken 12 = .ok (.iconst 0, 1) := by decide +kernel
theorem dX3_taken_13 : decode cX3_taken 13 = .ok (.aload_n 0, 1) := by decide +kernel
theorem dX3_taken_14 : decode cX3_taken 14 = .ok (.getfield 14, 3) := by decide +kernel
theorem dX3_taken_17 : decode cX3_taken 17 = .ok (.iconst 0, 1) := by decide +kernel
theorem dX3_taken_18 : decode cX3_taken 18 = .ok (.iaload, 1) := by decide +kernel
theorem dX3_taken_19 : decode cX3_taken 19 = .ok (.iconst 2, 1) := by decide +kernel
theorem dX3_taken_20 : decode cX3_taken 20 = .ok (.iadd, 1) := by decide +kernel
theorem dX3_taken_21 : decode cX3_taken 21 = .ok (.invokevirtual 39, 3) := by decide +kernel
theorem dX3_taken_24 : decode cX3_taken 24 = .ok (.iload_n 1, 1) := by decide +kernel
theorem dX3_taken_25 : decode cX3_taken 25 = .ok (.ireturn, 1) := by decide +kernel
theorem dX3_number_0 : decode cX3_number 0 = .ok (.aload_n 0, 1) := by decide +kernel
theorem dX3_number_1 : decode cX3_number 1 = .ok (.aload_n 0, 1) := by decide +kernel
theorem dX3_number_2 : decode cX3_number 2 = .ok (.getfield 51, 3) := by decide +kernel
theorem dX3_number_5 : decode cX3_number 5 = .ok (.ifCond .eq 11, 3) := by decide +kernel
theorem dX3_number_8 : decode cX3_number 8 = .ok (.iload_n 1, 1) := by decide +kernel
theorem dX3_number_9 : decode cX3_number 9 = .ok (.sipush 255, 3) := by decide +kernel
theorem dX3_number_12 : decode cX3_number 12 = .ok (.iand, 1) := by decide +kernel
theorem dX3_number_13 : decode cX3_number 13 = .ok (.goto 4, 3) := by decide +kernel
theorem dX3_number_16 : decode cX3_number 16 = .ok (.iload_n 1, 1) := by decide +kernel
theorem dX3_number_17 : decode cX3_number 17 = .ok (.putfield 80, 3) := by decide +kernel
theorem dX3_number_20 : decode cX3_number 20 = .ok (.aload_n 0, 1) := by decide +kernel
theorem dX3_number_21 : decode cX3_number 21 = .ok (.bipush 16, 2) := by decide +kernel
theorem dX3_number_23 : decode cX3_number 23 = .ok (.putfield 83, 3) := by decide +kernel
theorem dX3_number_26 : decode cX3_number 26 = .ok (.return_, 1) := by decide +kernel
theorem dX3_register_0 : decode cX3_register 0 = .ok (.aload_n 0, 1) := by decide +kernel
theorem dX3_register_1 : decode cX3_register 1 = .ok (.aload_n 0, 1) := by decide +kernel
theorem dX3_register_2 : decode cX3_register 2 = .ok (.getfield 51, 3) := by decide +kernel
theorem dX3_register_5 : decode cX3_register 5 = .ok (.ifCond .eq 16, 3) := by decide +kernel
theorem dX3_register_8 : decode cX3_register 8 = .ok (.aload_n 0, 1) := by decide +kernel
theorem dX3_register_9 : decode cX3_register 9 = .ok (.getfield 14, 3) := by decide +kernel
theorem dX3_register_12 : decode cX3_register 12 = .ok (.iload_n 1, 1) := by decide +kernel
theorem dX3_register_13 : decode cX3_register 13 = .ok (.iaload, 1) := by decide +kernel
theorem dX3_register_14 : decode cX3_register 14 = .ok (.sipush 255, 3) := by decide +kernel
theorem dX3_register_17 : decode cX3_register 17 = .ok (.iand, 1) := by decide +kernel
theorem dX3_register_18 : decode cX3_register 18 = .ok (.goto 9, 3) := by decide +kernel
theorem dX3_register_21 : decode cX3_register 21 = .ok (.aload_n 0, 1) := by decide +kernel
theorem dX3_register_22 : decode cX3_register 22 = .ok (.getfield 14, 3) := by decide +kernel
theorem dX3_register_25 : decode cX3_register 25 = .ok (.iload_n 1, 1) := by decide +kernel
theorem dX3_register_26 : decode cX3_register 26 = .ok (.iaload, 1) := by decide +kernel
theorem dX3_register_27 : decode cX3_register 27 = .ok (.putfield 80, 3) := by decide +kernel
theorem dX3_register_30 : decode cX3_register 30 = .ok (.aload_n 0, 1) := by decide +kernel
theorem dX3_register_31 : decode cX3_register 31 = .ok (.iload_n 1, 1) := by decide +kernel
theorem dX3_register_32 : decode cX3_register 32 = .ok (.iconst 3, 1) := by decide +kernel
theorem dX3_register_33 : decode cX3_register 33 = .ok (.if_icmp .ne 8, 3) := by decide +kernel
theorem dX3_register_36 : decode cX3_register 36 = .ok (.bipush 16, 2) := by decide +kernel
theorem dX3_register_38 : decode cX3_register 38 = .ok (.goto 4, 3) := by decide +kernel
theorem dX3_register_41 : decode cX3_register 41 = .ok (.iload_n 1, 1) := by decide +kernel
theorem dX3_register_42 : decode cX3_register 42 = .ok (.putfield 83, 3) := by decide +kernel
theorem dX3_register_45 : decode cX3_register 45 = .ok (.return_, 1) := by decide +kernel
set_option maxRecDepth 20000 in
theorem ggX3_memory_X3_valueAt : GoodIn wsX3_memory wsX3_valueAt := goodIn_r _ [9, 10, 11, 12, 13, 8, 14, 15, 16, 17, 18, 19, 20, 1, 21, 22, 23, 24, 25, 26, 27, 28, 29, 30, 31, 32, 33, 34, 35] (by decide +kernel) (by decide +kernel)
set_option maxRecDepth 20000 in
theorem gX3_memory_X3_valueAt : GoodIn wsX3_memory (wsV RX3 86 RX3 yX3_valueAt wsX3_valueAt) := goodIn_app (goodIn_of _ (by decide +kernel)) ggX3_memory_X3_valueAt
theorem dX3_memory_0 : decode cX3_memory 0 = .ok (.aload_n 0, 1) := by decide +kernel
theorem dX3_memory_1 : decode cX3_memory 1 = .ok (.aload_n 0, 1) := by decide +kernel
theorem dX3_memory_2 : decode cX3_memory 2 = .ok (.iload_n 1, 1) := by decide +kernel
theorem dX3_memory_3 : decode cX3_memory 3 = .ok (.ldc 50, 2) := by decide +kernel
theorem dX3_memory_5 : decode cX3_memory 5 = .ok (.iand, 1) := by decide +kernel
theorem dX3_memory_6 : decode cX3_memory 6 = .ok (.invokevirtual 86, 3) := by decide +kernel
theorem dX3_memory_9 : decode cX3_memory 9 = .ok (.putfield 80, 3) := by decide +kernel
theorem dX3_memory_12 : decode cX3_memory 12 = .ok (.aload_n 0, 1) := by decide +kernel
theorem dX3_memory_13 : decode cX3_memory 13 = .ok (.ldc 73, 2) := by decide +kernel
theorem dX3_memory_15 : decode cX3_memory 15 = .ok (.iload_n 1, 1) := by decide +kernel
theorem dX3_memory_16 : decode cX3_memory 16 = .ok (.ldc 50, 2) := by decide +kernel
theorem dX3_memory_18 : decode cX3_memory 18 = .ok (.iand, 1) := by decide +kernel
theorem dX3_memory_19 : decode cX3_memory 19 = .ok (.iadd, 1) := by decide +kernel
theorem dX3_memory_20 : decode cX3_memory 20 = .ok (.putfield 83, 3) := by decide +kernel
theorem dX3_memory_23 : decode cX3_memory 23 = .ok (.return_, 1) := by decide +kernel
set_option maxRecDepth 20000 in
theorem ggX3_indexed_X3_taken : GoodIn wsX3_indexed wsX3_taken := goodIn_r _ [6, 1, 7, 8, 9, 5, 10, 11, 12, 13, 14, 15, 16, 17, 18, 19, 20, 21, 22, 23, 24, 41, 42, 43, 44, 45, 46, 47, 48, 49] (by decide +kernel) (by decide +kernel)
set_option maxRecDepth 20000 in
theorem gX3_indexed_X3_taken : GoodIn wsX3_indexed (wsV RX3 89 RX3 yX3_taken wsX3_taken) := goodIn_app (goodIn_of _ (by decide +kernel)) ggX3_indexed_X3_taken
set_option maxRecDepth 20000 in
theorem ggX3_indexed_X3_memory : GoodIn wsX3_indexed wsX3_memory := goodIn_r _ [28, 13, 29, 30, 31, 32, 33, 34, 5, 35, 36, 37, 38, 39, 40, 7, 8, 9, 10, 11, 12, 14, 15, 16, 17, 18, 19, 41, 42, 43, 44, 45, 46, 47, 48, 49] (by decide +kernel) (by decide +kernel)
set_option maxRecDepth 20000 in
theorem gX3_indexed_X3_memory : GoodIn wsX3_indexed (wsV RX3 93 RX3 yX3_memory wsX3_memory) := goodIn_app (goodIn_of _ (by decide +kernel)) ggX3_indexed_X3_memory
theorem dX3_indexed_0 : decode cX3_indexed 0 = .ok (.iload_n 1, 1) := by decide +kernel
theorem dX3_indexed_1 : decode cX3_indexed 1 = .ok (.ifCond .ne 12, 3) := by decide +kernel
theorem dX3_indexed_4 : decode cX3_indexed 4 = .ok (.aload_n 0, 1) := by decide +kernel
theorem dX3_indexed_5 : decode cX3_indexed 5 = .ok (.getfield 14, 3) := by decide +kernel
theorem dX3_indexed_8 : decode cX3_indexed 8 = .ok (.iconst 0, 1) := by decide +kernel
theorem dX3_indexed_9 : decode cX3_indexed 9 = .ok (.iaload, 1) := by decide +kernel
theorem dX3_indexed_10 : decode cX3_indexed 10 = .ok (.goto 23, 3) := by decide +kernel
theorem dX3_indexed_13 : decode cX3_indexed 13 = .ok (.iload_n 1, 1) := by decide +kernel
theorem dX3_indexed_14 : decode cX3_indexed 14 = .ok (.iconst 4, 1) := by decide +kernel
theorem dX3_indexed_15 : decode cX3_indexed 15 = .ok (.if_icmp .ge 12, 3) := by decide +kernel
theorem dX3_indexed_18 : decode cX3_indexed 18 = .ok (.iload_n 1, 1) := by decide +kernel
theorem dX3_indexed_19 : decode cX3_indexed 19 = .ok (.iconst 1, 1) := by decide +kernel
theorem dX3_indexed_20 : decode cX3_indexed 20 = .ok (.if_icmp .eq 7, 3) := by decide +kernel
theorem dX3_indexed_23 : decode cX3_indexed 23 = .ok (.iconst 0, 1) := by decide +kernel
theorem dX3_indexed_24 : decode cX3_indexed 24 = .ok (.goto 9, 3) := by decide +kernel
theorem dX3_indexed_27 : decode cX3_indexed 27 = .ok (.aload_n 0, 1) := by decide +kernel
theorem dX3_indexed_28 : decode cX3_indexed 28 = .ok (.getfield 14, 3) := by decide +kernel
theorem dX3_indexed_31 : decode cX3_indexed 31 = .ok (.iload_n 1, 1) := by decide +kernel
theorem dX3_indexed_32 : decode cX3_indexed 32 = .ok (.iaload, 1) := by decide +kernel
theorem dX3_indexed_33 : decode cX3_indexed 33 = .ok (.istore_n 2, 1) := by decide +kernel
theorem dX3_indexed_34 : decode cX3_indexed 34 = .ok (.aload_n 0, 1) := by decide +kernel
theorem dX3_indexed_35 : decode cX3_indexed 35 = .ok (.iload_n 2, 1) := by decide +kernel
theorem dX3_indexed_36 : decode cX3_indexed 36 = .ok (.aload_n 0, 1) := by decide +kernel
theorem dX3_indexed_37 : decode cX3_indexed 37 = .ok (.invokevirtual 89, 3) := by decide +kernel
theorem dX3_indexed_40 : decode cX3_indexed 40 = .ok (.iadd, 1) := by decide +kernel
theorem dX3_indexed_41 : decode cX3_indexed 41 = .ok (.invokevirtual 93, 3) := by decide +kernel
theorem dX3_indexed_44 : decode cX3_indexed 44 = .ok (.return_, 1) := by decide +kernel
set_option maxRecDepth 20000 in
theorem ggX3_source_X3_register : GoodIn wsX3_source wsX3_register := goodIn_r _ [8, 3, 2, 9, 10, 53, 54, 55, 56, 57, 58, 59, 60, 61] (by decide +kernel) (by decide +kernel)
set_option maxRecDepth 20000 in
theorem gX3_source_X3_register : GoodIn wsX3_source (wsV RX3 97 RX3 yX3_register wsX3_register) := goodIn_app (goodIn_of _ (by decide +kernel)) ggX3_source_X3_register
set_option maxRecDepth 20000 in
theorem ggX3_source_X3_indexed : GoodIn wsX3_source wsX3_indexed := goodIn_r _ [14, 2, 15, 16, 17, 7, 18, 19, 20, 21, 22, 23, 24, 1, 25, 26, 27, 28, 29, 30, 31, 32, 33, 34, 35, 36, 37, 38, 39, 9, 40, 10, 41, 42, 43, 44, 3, 45, 46, 47, 48, 53, 54, 55, 56, 57, 58, 59, 60, 61] (by decide +kernel) (by decide +kernel)
set_option maxRecDepth 20000 in
theorem gX3_source_X3_indexed : GoodIn wsX3_source (wsV RX3 100 RX3 yX3_indexed wsX3_indexed) := goodIn_app (goodIn_of _ (by decide +kernel)) ggX3_source_X3_indexed
set_option maxRecDepth 20000 in
theorem ggX3_source_X3_number : GoodIn wsX3_source wsX3_number := goodIn_r _ [52, 3, 9, 10, 53, 54, 55, 56, 57, 58, 59, 60, 61] (by decide +kernel) (by decide +kernel)
set_option maxRecDepth 20000 in
theorem gX3_source_X3_number : GoodIn wsX3_source (wsV RX3 103 RX3 yX3_number wsX3_number) := goodIn_app (goodIn_of _ (by decide +kernel)) ggX3_source_X3_number
set_option maxRecDepth 20000 in
theorem ggX3_source_X3_memory : GoodIn wsX3_source wsX3_memory := goodIn_r _ [39, 1, 9, 40, 10, 41, 42, 43, 7, 44, 3, 45, 46, 47, 48, 19, 20, 21, 22, 23, 24, 25, 26, 27, 28, 29, 30, 53, 54, 55, 56, 57, 58, 59, 60, 61] (by decide +kernel) (by decide +kernel)
set_option maxRecDepth 20000 in
theorem gX3_source_X3_memory : GoodIn wsX3_source (wsV RX3 93 RX3 yX3_memory wsX3_memory) := goodIn_app (goodIn_of _ (by decide +kernel)) ggX3_source_X3_memory
set_option maxRecDepth 20000 in
theorem ggX3_source_X3_setRegister : GoodIn wsX3_source wsX3_setRegister := goodIn_r _ [34, 2, 35, 1, 53, 54, 55, 56, 57, 58, 59, 60, 61] (by decide +kernel) (by decide +kernel)
set_option maxRecDepth 20000 in
theorem gX3_source_X3_setRegister : GoodIn wsX3_source (wsV RX3 39 RX3 yX3_setRegister wsX3_setRegister) := goodIn_app (goodIn_of _ (by decide +kernel)) ggX3_source_X3_setRegister
theorem dX3_source_0 : decode cX3_source 0 = .ok (.iload_n 1, 1) := by decide +kernel
theorem dX3_source_1 : decode cX3_source 1 = .ok (.ifCond .ne 11, 3) := by decide +kernel
theorem dX3_source_4 : decode cX3_source 4 = .ok (.aload_n 0, 1) := by decide +kernel
theorem dX3_source_5 : decode cX3_source 5 = .ok (.iload_n 2, 1) := by decide +kernel
theorem dX3_source_6 : decode cX3_source 6 = .ok (.invokevirtual 97, 3) := by decide +kernel
theorem dX3_source_9 : decode cX3_source 9 = .ok (.goto 90, 3) := by decide +kernel
theorem dX3_source_12 : decode cX3_source 12 = .ok (.iload_n 1, 1) := by decide +kernel
theorem dX3_source_13 : decode cX3_source 13 = .ok (.iconst 1, 1) := by decide +kernel
theorem dX3_source_14 : decode cX3_source 14 = .ok (.if_icmp .ne 16, 3) := by decide +kernel
theorem dX3_source_17 : decode cX3_source 17 = .ok (.iload_n 2, 1) := by decide +kernel
theorem dX3_source_18 : decode cX3_source 18 = .ok (.iconst 3, 1) := by decide +kernel
theorem dX3_source_19 : decode cX3_source 19 = .ok (.if_icmp .eq 11, 3) := by decide +kernel
theorem dX3_source_22 : decode cX3_source 22 = .ok (.aload_n 0, 1) := by decide +kernel
theorem dX3_source_23 : decode cX3_source 23 = .ok (.iload_n 2, 1) := by decide +kernel
theorem dX3_source_24 : decode cX3_source 24 = .ok (.invokevirtual 100, 3) := by decide +kernel
theorem dX3_source_27 : decode cX3_source 27 = .ok (.goto 72, 3) := by decide +kernel
theorem dX3_source_30 : decode cX3_source 30 = .ok (.iload_n 1, 1) := by decide +kernel
theorem dX3_source_31 : decode cX3_source 31 = .ok (.iconst 1, 1) := by decide +kernel
theorem dX3_source_32 : decode cX3_source 32 = .ok (.if_icmp .ne 11, 3) := by decide +kernel
theorem dX3_source_35 : decode cX3_source 35 = .ok (.aload_n 0, 1) := by decide +kernel
theorem dX3_source_36 : decode cX3_source 36 = .ok (.iconst 1, 1) := by decide +kernel
theorem dX3_source_37 : decode cX3_source 37 = .ok (.invokevirtual 103, 3) := by decide +kernel
theorem dX3_source_40 : decode cX3_source 40 = .ok (.goto 59, 3) := by decide +kernel
theorem dX3_source_43 : decode cX3_source 43 = .ok (.iload_n 2, 1) := by decide +kernel
theorem dX3_source_44 : decode cX3_source 44 = .ok (.iconst 2, 1) := by decide +kernel
theorem dX3_source_45 : decode cX3_source 45 = .ok (.if_icmp .ne 21, 3) := by decide +kernel
theorem dX3_source_48 : decode cX3_source 48 = .ok (.aload_n 0, 1) := by decide +kernel
theorem dX3_source_49 : decode cX3_source 49 = .ok (.iload_n 1, 1) := by decide +kernel
theorem dX3_source_50 : decode cX3_source 50 = .ok (.iconst 2, 1) := by decide +kernel
theorem dX3_source_51 : decode cX3_source 51 = .ok (.if_icmp .ne 7, 3) := by decide +kernel
theorem dX3_source_54 : decode cX3_source 54 = .ok (.iconst 4, 1) := by decide +kernel
theorem dX3_source_55 : decode cX3_source 55 = .ok (.goto 5, 3) := by decide +kernel
theorem dX3_source_58 : decode cX3_source 58 = .ok (.bipush 8, 2) := by decide +kernel
theorem dX3_source_60 : decode cX3_source 60 = .ok (.invokevirtual 103, 3) := by decide +kernel
theorem dX3_source_63 : decode cX3_source 63 = .ok (.goto 36, 3) := by decide +kernel
theorem dX3_source_66 : decode cX3_source 66 = .ok (.iload_n 2, 1) := by decide +kernel
theorem dX3_source_67 : decode cX3_source 67 = .ok (.iconst 3, 1) := by decide +kernel
theorem dX3_source_68 : decode cX3_source 68 = .ok (.if_icmp .ne 21, 3) := by decide +kernel
theorem dX3_source_71 : decode cX3_source 71 = .ok (.aload_n 0, 1) := by decide +kernel
theorem dX3_source_72 : decode cX3_source 72 = .ok (.iload_n 1, 1) := by decide +kernel
theorem dX3_source_73 : decode cX3_source 73 = .ok (.iconst 2, 1) := by decide +kernel
theorem dX3_source_74 : decode cX3_source 74 = .ok (.if_icmp .ne 7, 3) := by decide +kernel
theorem dX3_source_77 : decode cX3_source 77 = .ok (.iconst 2, 1) := by decide +kernel
theorem dX3_source_78 : decode cX3_source 78 = .ok (.goto 5, 3) := by decide +kernel
theorem dX3_source_81 : decode cX3_source 81 = .ok (.ldc 50, 2) := by decide +kernel
theorem dX3_source_83 : decode cX3_source 83 = .ok (.invokevirtual 103, 3) := by decide +kernel
theorem dX3_source_86 : decode cX3_source 86 = .ok (.goto 13, 3) := by decide +kernel
theorem dX3_source_89 : decode cX3_source 89 = .ok (.aload_n 0, 1) := by decide +kernel
theorem dX3_source_90 : decode cX3_source 90 = .ok (.aload_n 0, 1) := by decide +kernel
theorem dX3_source_91 : decode cX3_source 91 = .ok (.getfield 14, 3) := by decide +kernel
theorem dX3_source_94 : decode cX3_source 94 = .ok (.iload_n 2, 1) := by decide +kernel
theorem dX3_source_95 : decode cX3_source 95 = .ok (.iaload, 1) := by decide +kernel
theorem dX3_source_96 : decode cX3_source 96 = .ok (.invokevirtual 93, 3) := by decide +kernel
theorem dX3_source_99 : decode cX3_source 99 = .ok (.iload_n 1, 1) := by decide +kernel
theorem dX3_source_100 : decode cX3_source 100 = .ok (.iconst 3, 1) := by decide +kernel
theorem dX3_source_101 : decode cX3_source 101 = .ok (.if_icmp .ne 42, 3) := by decide +kernel
theorem dX3_source_104 : decode cX3_source 104 = .ok (.iload_n 2, 1) := by decide +kernel
theorem dX3_source_105 : decode cX3_source 105 = .ok (.iconst 2, 1) := by decide +kernel
theorem dX3_source_106 : decode cX3_source 106 = .ok (.if_icmp .eq 37, 3) := by decide +kernel
theorem dX3_source_109 : decode cX3_source 109 = .ok (.iload_n 2, 1) := by decide +kernel
theorem dX3_source_110 : decode cX3_source 110 = .ok (.iconst 3, 1) := by decide +kernel
theorem dX3_source_111 : decode cX3_source 111 = .ok (.if_icmp .eq 32, 3) := by decide +kernel
theorem dX3_source_114 : decode cX3_source 114 = .ok (.aload_n 0, 1) := by decide +kernel
theorem dX3_source_115 : decode cX3_source 115 = .ok (.iload_n 2, 1) := by decide +kernel
theorem dX3_source_116 : decode cX3_source 116 = .ok (.aload_n 0, 1) := by decide +kernel
theorem dX3_source_117 : decode cX3_source 117 = .ok (.getfield 14, 3) := by decide +kernel
theorem dX3_source_120 : decode cX3_source 120 = .ok (.iload_n 2, 1) := by decide +kernel
theorem dX3_source_121 : decode cX3_source 121 = .ok (.iaload, 1) := by decide +kernel
theorem dX3_source_122 : decode cX3_source 122 = .ok (.aload_n 0, 1) := by decide +kernel
theorem dX3_source_123 : decode cX3_source 123 = .ok (.getfield 51, 3) := by decide +kernel
theorem dX3_source_126 : decode cX3_source 126 = .ok (.ifCond .eq 12, 3) := by decide +kernel
theorem dX3_source_129 : decode cX3_source 129 = .ok (.iload_n 2, 1) := by decide +kernel
theorem dX3_source_130 : decode cX3_source 130 = .ok (.iconst 1, 1) := by decide +kernel
theorem dX3_source_131 : decode cX3_source 131 = .ok (.if_icmp .le 7, 3) := by decide +kernel
theorem dX3_source_134 : decode cX3_source 134 = .ok (.iconst 1, 1) := by decide +kernel
theorem dX3_source_135 : decode cX3_source 135 = .ok (.goto 4, 3) := by decide +kernel
theorem dX3_source_138 : decode cX3_source 138 = .ok (.iconst 2, 1) := by decide +kernel
theorem dX3_source_139 : decode cX3_source 139 = .ok (.iadd, 1) := by decide +kernel
theorem dX3_source_140 : decode cX3_source 140 = .ok (.invokevirtual 39, 3) := by decide +kernel
theorem dX3_source_143 : decode cX3_source 143 = .ok (.return_, 1) := by decide +kernel
theorem dX3_sort_0 : decode cX3_sort 0 = .ok (.iload_n 0, 1) := by decide +kernel
theorem dX3_sort_1 : decode cX3_sort 1 = .ok (.ifCond .eq 18, 3) := by decide +kernel
theorem dX3_sort_4 : decode cX3_sort 4 = .ok (.iload_n 1, 1) := by decide +kernel
theorem dX3_sort_5 : decode cX3_sort 5 = .ok (.iconst 3, 1) := by decide +kernel
theorem dX3_sort_6 : decode cX3_sort 6 = .ok (.if_icmp .eq 13, 3) := by decide +kernel
theorem dX3_sort_9 : decode cX3_sort 9 = .ok (.iload_n 1, 1) := by decide +kernel
theorem dX3_sort_10 : decode cX3_sort 10 = .ok (.iconst 2, 1) := by decide +kernel
theorem dX3_sort_11 : decode cX3_sort 11 = .ok (.if_icmp .ne 10, 3) := by decide +kernel
theorem dX3_sort_14 : decode cX3_sort 14 = .ok (.iload_n 0, 1) := by decide +kernel
theorem dX3_sort_15 : decode cX3_sort 15 = .ok (.iconst 1, 1) := by decide +kernel
theorem dX3_sort_16 : decode cX3_sort 16 = .ok (.if_icmp .le 5, 3) := by decide +kernel
theorem dX3_sort_19 : decode cX3_sort 19 = .ok (.iconst 0, 1) := by decide +kernel
theorem dX3_sort_20 : decode cX3_sort 20 = .ok (.ireturn, 1) := by decide +kernel
theorem dX3_sort_21 : decode cX3_sort 21 = .ok (.iload_n 0, 1) := by decide +kernel
theorem dX3_sort_22 : decode cX3_sort 22 = .ok (.iconst 1, 1) := by decide +kernel
theorem dX3_sort_23 : decode cX3_sort 23 = .ok (.if_icmp .ne 7, 3) := by decide +kernel
theorem dX3_sort_26 : decode cX3_sort 26 = .ok (.iconst 3, 1) := by decide +kernel
theorem dX3_sort_27 : decode cX3_sort 27 = .ok (.goto 6, 3) := by decide +kernel
theorem dX3_sort_30 : decode cX3_sort 30 = .ok (.iload_n 0, 1) := by decide +kernel
theorem dX3_sort_31 : decode cX3_sort 31 = .ok (.iconst 1, 1) := by decide +kernel
theorem dX3_sort_32 : decode cX3_sort 32 = .ok (.isub, 1) := by decide +kernel
theorem dX3_sort_33 : decode cX3_sort 33 = .ok (.ireturn, 1) := by decide +kernel
theorem dX3_pick_0 : decode cX3_pick 0 = .ok (.iload_n 0, 1) := by decide +kernel
theorem dX3_pick_1 : decode cX3_pick 1 = .ok (.iconst 4, 1) := by decide +kernel
theorem dX3_pick_2 : decode cX3_pick 2 = .ok (.iload_n 1, 1) := by decide +kernel
theorem dX3_pick_3 : decode cX3_pick 3 = .ok (.imul, 1) := by decide +kernel
theorem dX3_pick_4 : decode cX3_pick 4 = .ok (.ishr, 1) := by decide +kernel
theorem dX3_pick_5 : decode cX3_pick 5 = .ok (.bipush 15, 2) := by decide +kernel
theorem dX3_pick_7 : decode cX3_pick 7 = .ok (.iand, 1) := by decide +kernel
theorem dX3_pick_8 : decode cX3_pick 8 = .ok (.ireturn, 1) := by decide +kernel
theorem dX3_spend_0 : decode cX3_spend 0 = .ok (.aload_n 0, 1) := by decide +kernel
theorem dX3_spend_1 : decode cX3_spend 1 = .ok (.aload_n 0, 1) := by decide +kernel
theorem dX3_spend_2 : decode cX3_spend 2 = .ok (.getfield 31, 3) := by decide +kernel
theorem dX3_spend_5 : decode cX3_spend 5 = .ok (.iload_n 1, 1) := by decide +kernel
theorem dX3_spend_6 : decode cX3_spend 6 = .ok (.iadd, 1) := by decide +kernel
theorem dX3_spend_7 : decode cX3_spend 7 = .ok (.ldc 106, 2) := by decide +kernel
theorem dX3_spend_9 : decode cX3_spend 9 = .ok (.iand, 1) := by decide +kernel
theorem dX3_spend_10 : decode cX3_spend 10 = .ok (.putfield 31, 3) := by decide +kernel
theorem dX3_spend_13 : decode cX3_spend 13 = .ok (.return_, 1) := by decide +kernel
theorem dX3_flag_0 : decode cX3_flag 0 = .ok (.aload_n 0, 1) := by decide +kernel
theorem dX3_flag_1 : decode cX3_flag 1 = .ok (.getfield 14, 3) := by decide +kernel
theorem dX3_flag_4 : decode cX3_flag 4 = .ok (.iconst 2, 1) := by decide +kernel
theorem dX3_flag_5 : decode cX3_flag 5 = .ok (.iaload, 1) := by decide +kernel
theorem dX3_flag_6 : decode cX3_flag 6 = .ok (.iload_n 1, 1) := by decide +kernel
theorem dX3_flag_7 : decode cX3_flag 7 = .ok (.iand, 1) := by decide +kernel
theorem dX3_flag_8 : decode cX3_flag 8 = .ok (.ifCond .eq 7, 3) := by decide +kernel
theorem dX3_flag_11 : decode cX3_flag 11 = .ok (.iconst 1, 1) := by decide +kernel
theorem dX3_flag_12 : decode cX3_flag 12 = .ok (.goto 4, 3) := by decide +kernel
theorem dX3_flag_15 : decode cX3_flag 15 = .ok (.iconst 0, 1) := by decide +kernel
theorem dX3_flag_16 : decode cX3_flag 16 = .ok (.ireturn, 1) := by decide +kernel
theorem dX3_setFlag_0 : decode cX3_setFlag 0 = .ok (.aload_n 0, 1) := by decide +kernel
theorem dX3_setFlag_1 : decode cX3_setFlag 1 = .ok (.getfield 14, 3) := by decide +kernel
theorem dX3_setFlag_4 : decode cX3_setFlag 4 = .ok (.iconst 2, 1) := by decide +kernel
theorem dX3_setFlag_5 : decode cX3_setFlag 5 = .ok (.iload_n 2, 1) := by decide +kernel
theorem dX3_setFlag_6 : decode cX3_setFlag 6 = .ok (.ifCond .eq 14, 3) := by decide +kernel
theorem dX3_setFlag_9 : decode cX3_setFlag 9 = .ok (.aload_n 0, 1) := by decide +kernel
theorem dX3_setFlag_10 : decode cX3_setFlag 10 = .ok (.getfield 14, 3) := by decide +kernel
theorem dX3_setFlag_13 : decode cX3_setFlag 13 = .ok (.iconst 2, 1) := by decide +kernel
theorem dX3_setFlag_14 : decode cX3_setFlag 14 = .ok (.iaload, 1) := by decide +kernel
theorem dX3_setFlag_15 : decode cX3_setFlag 15 = .ok (.iload_n 1, 1) := by decide +kernel
theorem dX3_setFlag_16 : decode cX3_setFlag 16 = .ok (.ior, 1) := by decide +kernel
theorem dX3_setFlag_17 : decode cX3_setFlag 17 = .ok (.goto 13, 3) := by decide +kernel
theorem dX3_setFlag_20 : decode cX3_setFlag 20 = .ok (.aload_n 0, 1) := by decide +kernel
theorem dX3_setFlag_21 : decode cX3_setFlag 21 = .ok (.getfield 14, 3) := by decide +kernel
theorem dX3_setFlag_24 : decode cX3_setFlag 24 = .ok (.iconst 2, 1) := by decide +kernel
theorem dX3_setFlag_25 : decode cX3_setFlag 25 = .ok (.iaload, 1) := by decide +kernel
theorem dX3_setFlag_26 : decode cX3_setFlag 26 = .ok (.iload_n 1, 1) := by decide +kernel
theorem dX3_setFlag_27 : decode cX3_setFlag 27 = .ok (.iconst (-1), 1) := by decide +kernel
theorem dX3_setFlag_28 : decode cX3_setFlag 28 = .ok (.ixor, 1) := by decide +kernel
theorem dX3_setFlag_29 : decode cX3_setFlag 29 = .ok (.iand, 1) := by decide +kernel
theorem dX3_setFlag_30 : decode cX3_setFlag 30 = .ok (.iastore, 1) := by decide +kernel
theorem dX3_setFlag_31 : decode cX3_setFlag 31 = .ok (.return_, 1) := by decide +kernel
theorem dX3_high_0 : decode cX3_high 0 = .ok (.aload_n 0, 1) := by decide +kernel
theorem dX3_high_1 : decode cX3_high 1 = .ok (.getfield 51, 3) := by decide +kernel
theorem dX3_high_4 : decode cX3_high 4 = .ok (.ifCond .eq 9, 3) := by decide +kernel
theorem dX3_high_7 : decode cX3_high 7 = .ok (.sipush 128, 3) := by decide +kernel
theorem dX3_high_10 : decode cX3_high 10 = .ok (.goto 5, 3) := by decide +kernel
theorem dX3_high_13 : decode cX3_high 13 = .ok (.ldc 7, 2) := by decide +kernel
theorem dX3_high_15 : decode cX3_high 15 = .ok (.ireturn, 1) := by decide +kernel
theorem dX3_all_0 : decode cX3_all 0 = .ok (.aload_n 0, 1) := by decide +kernel
theorem dX3_all_1 : decode cX3_all 1 = .ok (.getfield 51, 3) := by decide +kernel
theorem dX3_all_4 : decode cX3_all 4 = .ok (.ifCond .eq 9, 3) := by decide +kernel
theorem dX3_all_7 : decode cX3_all 7 = .ok (.sipush 255, 3) := by decide +kernel
theorem dX3_all_10 : decode cX3_all 10 = .ok (.goto 5, 3) := by decide +kernel
theorem dX3_all_13 : decode cX3_all 13 = .ok (.ldc 50, 2) := by decide +kernel
theorem dX3_all_15 : decode cX3_all 15 = .ok (.ireturn, 1) := by decide +kernel
set_option maxRecDepth 20000 in
theorem ggX3_flags_X3_setFlag : GoodIn wsX3_flags wsX3_setFlag := goodIn_r _ [5, 6, 13, 14, 15, 16, 17, 18, 19, 20, 21] (by decide +kernel) (by decide +kernel)
set_option maxRecDepth 20000 in
theorem gX3_flags_X3_setFlag : GoodIn wsX3_flags (wsV RX3 107 RX3 yX3_setFlag wsX3_setFlag) := goodIn_app (goodIn_of _ (by decide +kernel)) ggX3_flags_X3_setFlag
set_option maxRecDepth 20000 in
theorem ggX3_flags_X3_high : GoodIn wsX3_flags wsX3_high := goodIn_r _ [10, 11, 12, 13, 14, 15, 16, 17, 18, 19, 20, 21] (by decide +kernel) (by decide +kernel)
set_option maxRecDepth 20000 in
theorem gX3_flags_X3_high : GoodIn wsX3_flags (wsV RX3 111 RX3 yX3_high wsX3_high) := goodIn_app (goodIn_of _ (by decide +kernel)) ggX3_flags_X3_high
theorem dX3_flags_0 : decode cX3_flags 0 = .ok (.aload_n 0, 1) := by decide +kernel
theorem dX3_flags_1 : decode cX3_flags 1 = .ok (.iconst 1, 1) := by decide +kernel
theorem dX3_flags_2 : decode cX3_flags 2 = .ok (.iload_n 2, 1) := by decide +kernel
theorem dX3_flags_3 : decode cX3_flags 3 = .ok (.invokevirtual 107, 3) := by decide +kernel
theorem dX3_flags_6 : decode cX3_flags 6 = .ok (.aload_n 0, 1) := by decide +kernel
theorem dX3_flags_7 : decode cX3_flags 7 = .ok (.iconst 2, 1) := by decide +kernel
theorem dX3_flags_8 : decode cX3_flags 8 = .ok (.iload_n 1, 1) := by decide +kernel
theorem dX3_flags_9 : decode cX3_flags 9 = .ok (.ifCond .ne 7, 3) := by decide +kernel
theorem dX3_flags_12 : decode cX3_flags 12 = .ok (.iconst 1, 1) := by decide +kernel
end
section
theorem dX3_flags_13 : decode cX3_flags 13 = .ok (.goto 4, 3) := by decide +kernel
theorem dX3_flags_16 : decode cX3_flags 16 = .ok (.iconst 0, 1) := by decide +kernel
theorem dX3_flags_17 : decode cX3_flags 17 = .ok (.invokevirtual 107, 3) := by decide +kernel
theorem dX3_flags_20 : decode cX3_flags 20 = .ok (.aload_n 0, 1) := by decide +kernel
theorem dX3_flags_21 : decode cX3_flags 21 = .ok (.iconst 4, 1) := by decide +kernel
theorem dX3_flags_22 : decode cX3_flags 22 = .ok (.iload_n 1, 1) := by decide +kernel
theorem dX3_flags_23 : decode cX3_flags 23 = .ok (.aload_n 0, 1) := by decide +kernel
theorem dX3_flags_24 : decode cX3_flags 24 = .ok (.invokevirtual 111, 3) := by decide +kernel
theorem dX3_flags_27 : decode cX3_flags 27 = .ok (.iand, 1) := by decide +kernel
theorem dX3_flags_28 : decode cX3_flags 28 = .ok (.ifCond .eq 7, 3) := by decide +kernel
theorem dX3_flags_31 : decode cX3_flags 31 = .ok (.iconst 1, 1) := by decide +kernel
theorem dX3_flags_32 : decode cX3_flags 32 = .ok (.goto 4, 3) := by decide +kernel
theorem dX3_flags_35 : decode cX3_flags 35 = .ok (.iconst 0, 1) := by decide +kernel
theorem dX3_flags_36 : decode cX3_flags 36 = .ok (.invokevirtual 107, 3) := by decide +kernel
theorem dX3_flags_39 : decode cX3_flags 39 = .ok (.aload_n 0, 1) := by decide +kernel
theorem dX3_flags_40 : decode cX3_flags 40 = .ok (.sipush 256, 3) := by decide +kernel
theorem dX3_flags_43 : decode cX3_flags 43 = .ok (.iload_n 3, 1) := by decide +kernel
theorem dX3_flags_44 : decode cX3_flags 44 = .ok (.invokevirtual 107, 3) := by decide +kernel
theorem dX3_flags_47 : decode cX3_flags 47 = .ok (.return_, 1) := by decide +kernel
set_option maxRecDepth 20000 in
theorem ggX3_sum_X3_all : GoodIn wsX3_sum wsX3_all := goodIn_r _ [5, 6, 7, 22, 23, 24, 25, 26, 27, 28, 29, 30] (by decide +kernel) (by decide +kernel)
set_option maxRecDepth 20000 in
theorem gX3_sum_X3_all : GoodIn wsX3_sum (wsV RX3 114 RX3 yX3_all wsX3_all) := goodIn_app (goodIn_of _ (by decide +kernel)) ggX3_sum_X3_all
set_option maxRecDepth 20000 in
theorem ggX3_sum_X3_high : GoodIn wsX3_sum wsX3_high := goodIn_r _ [11, 6, 12, 22, 23, 24, 25, 26, 27, 28, 29, 30] (by decide +kernel) (by decide +kernel)
set_option maxRecDepth 20000 in
theorem gX3_sum_X3_high : GoodIn wsX3_sum (wsV RX3 111 RX3 yX3_high wsX3_high) := goodIn_app (goodIn_of _ (by decide +kernel)) ggX3_sum_X3_high
set_option maxRecDepth 20000 in
theorem ggX3_sum_X3_flags : GoodIn wsX3_sum wsX3_flags := goodIn_r _ [16, 17, 18, 19, 4, 20, 21, 8, 9, 10, 11, 6, 12, 22, 23, 24, 25, 26, 27, 28, 29, 30] (by decide +kernel) (by decide +kernel)
set_option maxRecDepth 20000 in
theorem gX3_sum_X3_flags : GoodIn wsX3_sum (wsV RX3 117 RX3 yX3_flags wsX3_flags) := goodIn_app (goodIn_of _ (by decide +kernel)) ggX3_sum_X3_flags
theorem dX3_sum_0 : decode cX3_sum 0 = .ok (.iload_n 1, 1) := by decide +kernel
theorem dX3_sum_1 : decode cX3_sum 1 = .ok (.iload_n 2, 1) := by decide +kernel
theorem dX3_sum_2 : decode cX3_sum 2 = .ok (.iadd, 1) := by decide +kernel
theorem dX3_sum_3 : decode cX3_sum 3 = .ok (.iload_n 3, 1) := by decide +kernel
theorem dX3_sum_4 : decode cX3_sum 4 = .ok (.iadd, 1) := by decide +kernel
theorem dX3_sum_5 : decode cX3_sum 5 = .ok (.istore 4, 2) := by decide +kernel
theorem dX3_sum_7 : decode cX3_sum 7 = .ok (.iload 4, 2) := by decide +kernel
theorem dX3_sum_9 : decode cX3_sum 9 = .ok (.aload_n 0, 1) := by decide +kernel
theorem dX3_sum_10 : decode cX3_sum 10 = .ok (.invokevirtual 114, 3) := by decide +kernel
theorem dX3_sum_13 : decode cX3_sum 13 = .ok (.iand, 1) := by decide +kernel
theorem dX3_sum_14 : decode cX3_sum 14 = .ok (.istore 5, 2) := by decide +kernel
theorem dX3_sum_16 : decode cX3_sum 16 = .ok (.aload_n 0, 1) := by decide +kernel
theorem dX3_sum_17 : decode cX3_sum 17 = .ok (.iload 5, 2) := by decide +kernel
theorem dX3_sum_19 : decode cX3_sum 19 = .ok (.iload 4, 2) := by decide +kernel
theorem dX3_sum_21 : decode cX3_sum 21 = .ok (.aload_n 0, 1) := by decide +kernel
theorem dX3_sum_22 : decode cX3_sum 22 = .ok (.invokevirtual 114, 3) := by decide +kernel
theorem dX3_sum_25 : decode cX3_sum 25 = .ok (.if_icmp .le 7, 3) := by decide +kernel
theorem dX3_sum_28 : decode cX3_sum 28 = .ok (.iconst 1, 1) := by decide +kernel
theorem dX3_sum_29 : decode cX3_sum 29 = .ok (.goto 4, 3) := by decide +kernel
theorem dX3_sum_32 : decode cX3_sum 32 = .ok (.iconst 0, 1) := by decide +kernel
theorem dX3_sum_33 : decode cX3_sum 33 = .ok (.iload_n 1, 1) := by decide +kernel
theorem dX3_sum_34 : decode cX3_sum 34 = .ok (.iload_n 2, 1) := by decide +kernel
theorem dX3_sum_35 : decode cX3_sum 35 = .ok (.ixor, 1) := by decide +kernel
theorem dX3_sum_36 : decode cX3_sum 36 = .ok (.aload_n 0, 1) := by decide +kernel
theorem dX3_sum_37 : decode cX3_sum 37 = .ok (.invokevirtual 111, 3) := by decide +kernel
theorem dX3_sum_40 : decode cX3_sum 40 = .ok (.iand, 1) := by decide +kernel
theorem dX3_sum_41 : decode cX3_sum 41 = .ok (.ifCond .ne 19, 3) := by decide +kernel
theorem dX3_sum_44 : decode cX3_sum 44 = .ok (.iload_n 1, 1) := by decide +kernel
theorem dX3_sum_45 : decode cX3_sum 45 = .ok (.iload 5, 2) := by decide +kernel
theorem dX3_sum_47 : decode cX3_sum 47 = .ok (.ixor, 1) := by decide +kernel
theorem dX3_sum_48 : decode cX3_sum 48 = .ok (.aload_n 0, 1) := by decide +kernel
theorem dX3_sum_49 : decode cX3_sum 49 = .ok (.invokevirtual 111, 3) := by decide +kernel
theorem dX3_sum_52 : decode cX3_sum 52 = .ok (.iand, 1) := by decide +kernel
theorem dX3_sum_53 : decode cX3_sum 53 = .ok (.ifCond .eq 7, 3) := by decide +kernel
theorem dX3_sum_56 : decode cX3_sum 56 = .ok (.iconst 1, 1) := by decide +kernel
theorem dX3_sum_57 : decode cX3_sum 57 = .ok (.goto 4, 3) := by decide +kernel
theorem dX3_sum_60 : decode cX3_sum 60 = .ok (.iconst 0, 1) := by decide +kernel
theorem dX3_sum_61 : decode cX3_sum 61 = .ok (.invokevirtual 117, 3) := by decide +kernel
theorem dX3_sum_64 : decode cX3_sum 64 = .ok (.iload 5, 2) := by decide +kernel
theorem dX3_sum_66 : decode cX3_sum 66 = .ok (.ireturn, 1) := by decide +kernel
set_option maxRecDepth 20000 in
theorem ggX3_decimal_X3_flag : GoodIn wsX3_decimal wsX3_flag := goodIn_r _ [6, 7, 21, 22, 23, 24, 25, 26, 27, 28, 29] (by decide +kernel) (by decide +kernel)
set_option maxRecDepth 20000 in
theorem gX3_decimal_X3_flag : GoodIn wsX3_decimal (wsV RX3 121 RX3 yX3_flag wsX3_flag) := goodIn_app (goodIn_of _ (by decide +kernel)) ggX3_decimal_X3_flag
set_option maxRecDepth 20000 in
theorem ggX3_decimal_X3_flags : GoodIn wsX3_decimal wsX3_flags := goodIn_r _ [11, 12, 13, 14, 5, 15, 7, 16, 17, 18, 19, 1, 20, 21, 22, 23, 24, 25, 26, 27, 28, 29] (by decide +kernel) (by decide +kernel)
set_option maxRecDepth 20000 in
theorem gX3_decimal_X3_flags : GoodIn wsX3_decimal (wsV RX3 117 RX3 yX3_flags wsX3_flags) := goodIn_app (goodIn_of _ (by decide +kernel)) ggX3_decimal_X3_flags
theorem dX3_decimal_0 : decode cX3_decimal 0 = .ok (.aload_n 0, 1) := by decide +kernel
theorem dX3_decimal_1 : decode cX3_decimal 1 = .ok (.iconst 1, 1) := by decide +kernel
theorem dX3_decimal_2 : decode cX3_decimal 2 = .ok (.invokevirtual 121, 3) := by decide +kernel
theorem dX3_decimal_5 : decode cX3_decimal 5 = .ok (.istore_n 3, 1) := by decide +kernel
theorem dX3_decimal_6 : decode cX3_decimal 6 = .ok (.iconst 0, 1) := by decide +kernel
theorem dX3_decimal_7 : decode cX3_decimal 7 = .ok (.istore 4, 2) := by decide +kernel
theorem dX3_decimal_9 : decode cX3_decimal 9 = .ok (.iconst 0, 1) := by decide +kernel
theorem dX3_decimal_10 : decode cX3_decimal 10 = .ok (.istore 5, 2) := by decide +kernel
theorem dX3_decimal_12 : decode cX3_decimal 12 = .ok (.iload 5, 2) := by decide +kernel
theorem dX3_decimal_14 : decode cX3_decimal 14 = .ok (.aload_n 0, 1) := by decide +kernel
theorem dX3_decimal_15 : decode cX3_decimal 15 = .ok (.getfield 51, 3) := by decide +kernel
theorem dX3_decimal_18 : decode cX3_decimal 18 = .ok (.ifCond .eq 8, 3) := by decide +kernel
theorem dX3_decimal_21 : decode cX3_decimal 21 = .ok (.bipush 8, 2) := by decide +kernel
theorem dX3_decimal_23 : decode cX3_decimal 23 = .ok (.goto 5, 3) := by decide +kernel
theorem dX3_decimal_26 : decode cX3_decimal 26 = .ok (.bipush 16, 2) := by decide +kernel
theorem dX3_decimal_28 : decode cX3_decimal 28 = .ok (.if_icmp .ge 59, 3) := by decide +kernel
theorem dX3_decimal_31 : decode cX3_decimal 31 = .ok (.iload_n 1, 1) := by decide +kernel
theorem dX3_decimal_32 : decode cX3_decimal 32 = .ok (.iload 5, 2) := by decide +kernel
theorem dX3_decimal_34 : decode cX3_decimal 34 = .ok (.ishr, 1) := by decide +kernel
theorem dX3_decimal_35 : decode cX3_decimal 35 = .ok (.bipush 15, 2) := by decide +kernel
theorem dX3_decimal_37 : decode cX3_decimal 37 = .ok (.iand, 1) := by decide +kernel
theorem dX3_decimal_38 : decode cX3_decimal 38 = .ok (.iload_n 2, 1) := by decide +kernel
theorem dX3_decimal_39 : decode cX3_decimal 39 = .ok (.iload 5, 2) := by decide +kernel
theorem dX3_decimal_41 : decode cX3_decimal 41 = .ok (.ishr, 1) := by decide +kernel
theorem dX3_decimal_42 : decode cX3_decimal 42 = .ok (.bipush 15, 2) := by decide +kernel
theorem dX3_decimal_44 : decode cX3_decimal 44 = .ok (.iand, 1) := by decide +kernel
theorem dX3_decimal_45 : decode cX3_decimal 45 = .ok (.iadd, 1) := by decide +kernel
theorem dX3_decimal_46 : decode cX3_decimal 46 = .ok (.iload_n 3, 1) := by decide +kernel
theorem dX3_decimal_47 : decode cX3_decimal 47 = .ok (.iadd, 1) := by decide +kernel
theorem dX3_decimal_48 : decode cX3_decimal 48 = .ok (.istore 6, 2) := by decide +kernel
theorem dX3_decimal_50 : decode cX3_decimal 50 = .ok (.iload 6, 2) := by decide +kernel
theorem dX3_decimal_52 : decode cX3_decimal 52 = .ok (.bipush 9, 2) := by decide +kernel
theorem dX3_decimal_54 : decode cX3_decimal 54 = .ok (.if_icmp .le 7, 3) := by decide +kernel
theorem dX3_decimal_57 : decode cX3_decimal 57 = .ok (.iconst 1, 1) := by decide +kernel
theorem dX3_decimal_58 : decode cX3_decimal 58 = .ok (.goto 4, 3) := by decide +kernel
theorem dX3_decimal_61 : decode cX3_decimal 61 = .ok (.iconst 0, 1) := by decide +kernel
theorem dX3_decimal_62 : decode cX3_decimal 62 = .ok (.istore_n 3, 1) := by decide +kernel
theorem dX3_decimal_63 : decode cX3_decimal 63 = .ok (.iload 4, 2) := by decide +kernel
theorem dX3_decimal_65 : decode cX3_decimal 65 = .ok (.iload 6, 2) := by decide +kernel
theorem dX3_decimal_67 : decode cX3_decimal 67 = .ok (.bipush 10, 2) := by decide +kernel
theorem dX3_decimal_69 : decode cX3_decimal 69 = .ok (.iload_n 3, 1) := by decide +kernel
theorem dX3_decimal_70 : decode cX3_decimal 70 = .ok (.imul, 1) := by decide +kernel
theorem dX3_decimal_71 : decode cX3_decimal 71 = .ok (.isub, 1) := by decide +kernel
theorem dX3_decimal_72 : decode cX3_decimal 72 = .ok (.bipush 15, 2) := by decide +kernel
theorem dX3_decimal_74 : decode cX3_decimal 74 = .ok (.iand, 1) := by decide +kernel
theorem dX3_decimal_75 : decode cX3_decimal 75 = .ok (.iload 5, 2) := by decide +kernel
theorem dX3_decimal_77 : decode cX3_decimal 77 = .ok (.ishl, 1) := by decide +kernel
theorem dX3_decimal_78 : decode cX3_decimal 78 = .ok (.ior, 1) := by decide +kernel
theorem dX3_decimal_79 : decode cX3_decimal 79 = .ok (.istore 4, 2) := by decide +kernel
theorem dX3_decimal_81 : decode cX3_decimal 81 = .ok (.iinc 5 4, 3) := by decide +kernel
theorem dX3_decimal_84 : decode cX3_decimal 84 = .ok (.goto (-72), 3) := by decide +kernel
theorem dX3_decimal_87 : decode cX3_decimal 87 = .ok (.aload_n 0, 1) := by decide +kernel
theorem dX3_decimal_88 : decode cX3_decimal 88 = .ok (.iload 4, 2) := by decide +kernel
theorem dX3_decimal_90 : decode cX3_decimal 90 = .ok (.iload_n 3, 1) := by decide +kernel
theorem dX3_decimal_91 : decode cX3_decimal 91 = .ok (.iconst 1, 1) := by decide +kernel
theorem dX3_decimal_92 : decode cX3_decimal 92 = .ok (.if_icmp .ne 7, 3) := by decide +kernel
theorem dX3_decimal_95 : decode cX3_decimal 95 = .ok (.iconst 1, 1) := by decide +kernel
theorem dX3_decimal_96 : decode cX3_decimal 96 = .ok (.goto 4, 3) := by decide +kernel
theorem dX3_decimal_99 : decode cX3_decimal 99 = .ok (.iconst 0, 1) := by decide +kernel
theorem dX3_decimal_100 : decode cX3_decimal 100 = .ok (.iconst 0, 1) := by decide +kernel
theorem dX3_decimal_101 : decode cX3_decimal 101 = .ok (.invokevirtual 117, 3) := by decide +kernel
theorem dX3_decimal_104 : decode cX3_decimal 104 = .ok (.iload 4, 2) := by decide +kernel
theorem dX3_decimal_106 : decode cX3_decimal 106 = .ok (.ireturn, 1) := by decide +kernel
set_option maxRecDepth 20000 in
theorem ggX3_joined_X3_all : GoodIn wsX3_joined wsX3_all := goodIn_r _ [5, 6, 7, 34, 35, 36, 37, 38, 39, 40, 41, 42] (by decide +kernel) (by decide +kernel)
set_option maxRecDepth 20000 in
theorem gX3_joined_X3_all : GoodIn wsX3_joined (wsV RX3 114 RX3 yX3_all wsX3_all) := goodIn_app (goodIn_of _ (by decide +kernel)) ggX3_joined_X3_all
set_option maxRecDepth 20000 in
theorem ggX3_joined_X3_sum : GoodIn wsX3_joined wsX3_sum := goodIn_r _ [11, 1, 2, 3, 4, 5, 6, 7, 12, 13, 14, 15, 16, 17, 18, 19, 20, 21, 22, 23, 24, 25, 34, 35, 36, 37, 38, 39, 40, 41, 42] (by decide +kernel) (by decide +kernel)
set_option maxRecDepth 20000 in
theorem gX3_joined_X3_sum : GoodIn wsX3_joined (wsV RX3 124 RX3 yX3_sum wsX3_sum) := goodIn_app (goodIn_of _ (by decide +kernel)) ggX3_joined_X3_sum
set_option maxRecDepth 20000 in
theorem ggX3_joined_X3_flag : GoodIn wsX3_joined wsX3_flag := goodIn_r _ [29, 25, 34, 35, 36, 37, 38, 39, 40, 41, 42] (by decide +kernel) (by decide +kernel)
set_option maxRecDepth 20000 in
theorem gX3_joined_X3_flag : GoodIn wsX3_joined (wsV RX3 121 RX3 yX3_flag wsX3_flag) := goodIn_app (goodIn_of _ (by decide +kernel)) ggX3_joined_X3_flag
set_option maxRecDepth 20000 in
theorem ggX3_joined_X3_decimal : GoodIn wsX3_joined wsX3_decimal := goodIn_r _ [33, 6, 26, 27, 28, 4, 29, 25, 17, 18, 19, 20, 21, 22, 23, 24, 12, 13, 14, 15, 16, 34, 35, 36, 37, 38, 39, 40, 41, 42] (by decide +kernel) (by decide +kernel)
set_option maxRecDepth 20000 in
theorem gX3_joined_X3_decimal : GoodIn wsX3_joined (wsV RX3 127 RX3 yX3_decimal wsX3_decimal) := goodIn_app (goodIn_of _ (by decide +kernel)) ggX3_joined_X3_decimal
set_option maxRecDepth 20000 in
theorem ggX3_joined_X3_high : GoodIn wsX3_joined wsX3_high := goodIn_r _ [15, 6, 16, 34, 35, 36, 37, 38, 39, 40, 41, 42] (by decide +kernel) (by decide +kernel)
set_option maxRecDepth 20000 in
theorem gX3_joined_X3_high : GoodIn wsX3_joined (wsV RX3 111 RX3 yX3_high wsX3_high) := goodIn_app (goodIn_of _ (by decide +kernel)) ggX3_joined_X3_high
set_option maxRecDepth 20000 in
theorem ggX3_joined_X3_flags : GoodIn wsX3_joined wsX3_flags := goodIn_r _ [20, 21, 22, 23, 4, 24, 25, 12, 13, 14, 15, 6, 16, 34, 35, 36, 37, 38, 39, 40, 41, 42] (by decide +kernel) (by decide +kernel)
set_option maxRecDepth 20000 in
theorem gX3_joined_X3_flags : GoodIn wsX3_joined (wsV RX3 117 RX3 yX3_flags wsX3_flags) := goodIn_app (goodIn_of _ (by decide +kernel)) ggX3_joined_X3_flags
theorem dX3_joined_0 : decode cX3_joined 0 = .ok (.iload_n 2, 1) := by decide +kernel
theorem dX3_joined_1 : decode cX3_joined 1 = .ok (.aload_n 0, 1) := by decide +kernel
theorem dX3_joined_2 : decode cX3_joined 2 = .ok (.invokevirtual 114, 3) := by decide +kernel
theorem dX3_joined_5 : decode cX3_joined 5 = .ok (.ixor, 1) := by decide +kernel
theorem dX3_joined_6 : decode cX3_joined 6 = .ok (.istore 4, 2) := by decide +kernel
theorem dX3_joined_8 : decode cX3_joined 8 = .ok (.iload_n 1, 1) := by decide +kernel
theorem dX3_joined_9 : decode cX3_joined 9 = .ok (.tableswitch 159 4 14 #[59, 61, 69, 81, 94, 94, 103, 159, 110, 115, 119], 59) := by decide +kernel
theorem dX3_joined_68 : decode cX3_joined 68 = .ok (.iload_n 2, 1) := by decide +kernel
theorem dX3_joined_69 : decode cX3_joined 69 = .ok (.ireturn, 1) := by decide +kernel
theorem dX3_joined_70 : decode cX3_joined 70 = .ok (.aload_n 0, 1) := by decide +kernel
theorem dX3_joined_71 : decode cX3_joined 71 = .ok (.iload_n 2, 1) := by decide +kernel
theorem dX3_joined_72 : decode cX3_joined 72 = .ok (.iload_n 3, 1) := by decide +kernel
theorem dX3_joined_73 : decode cX3_joined 73 = .ok (.iconst 0, 1) := by decide +kernel
theorem dX3_joined_74 : decode cX3_joined 74 = .ok (.invokevirtual 124, 3) := by decide +kernel
theorem dX3_joined_77 : decode cX3_joined 77 = .ok (.ireturn, 1) := by decide +kernel
theorem dX3_joined_78 : decode cX3_joined 78 = .ok (.aload_n 0, 1) := by decide +kernel
theorem dX3_joined_79 : decode cX3_joined 79 = .ok (.iload_n 2, 1) := by decide +kernel
theorem dX3_joined_80 : decode cX3_joined 80 = .ok (.iload_n 3, 1) := by decide +kernel
theorem dX3_joined_81 : decode cX3_joined 81 = .ok (.aload_n 0, 1) := by decide +kernel
theorem dX3_joined_82 : decode cX3_joined 82 = .ok (.iconst 1, 1) := by decide +kernel
theorem dX3_joined_83 : decode cX3_joined 83 = .ok (.invokevirtual 121, 3) := by decide +kernel
theorem dX3_joined_86 : decode cX3_joined 86 = .ok (.invokevirtual 124, 3) := by decide +kernel
theorem dX3_joined_89 : decode cX3_joined 89 = .ok (.ireturn, 1) := by decide +kernel
theorem dX3_joined_90 : decode cX3_joined 90 = .ok (.aload_n 0, 1) := by decide +kernel
theorem dX3_joined_91 : decode cX3_joined 91 = .ok (.iload 4, 2) := by decide +kernel
theorem dX3_joined_93 : decode cX3_joined 93 = .ok (.iload_n 3, 1) := by decide +kernel
theorem dX3_joined_94 : decode cX3_joined 94 = .ok (.aload_n 0, 1) := by decide +kernel
theorem dX3_joined_95 : decode cX3_joined 95 = .ok (.iconst 1, 1) := by decide +kernel
theorem dX3_joined_96 : decode cX3_joined 96 = .ok (.invokevirtual 121, 3) := by decide +kernel
theorem dX3_joined_99 : decode cX3_joined 99 = .ok (.invokevirtual 124, 3) := by decide +kernel
theorem dX3_joined_102 : decode cX3_joined 102 = .ok (.ireturn, 1) := by decide +kernel
theorem dX3_joined_103 : decode cX3_joined 103 = .ok (.aload_n 0, 1) := by decide +kernel
theorem dX3_joined_104 : decode cX3_joined 104 = .ok (.iload 4, 2) := by decide +kernel
theorem dX3_joined_106 : decode cX3_joined 106 = .ok (.iload_n 3, 1) := by decide +kernel
theorem dX3_joined_107 : decode cX3_joined 107 = .ok (.iconst 1, 1) := by decide +kernel
theorem dX3_joined_108 : decode cX3_joined 108 = .ok (.invokevirtual 124, 3) := by decide +kernel
theorem dX3_joined_111 : decode cX3_joined 111 = .ok (.ireturn, 1) := by decide +kernel
theorem dX3_joined_112 : decode cX3_joined 112 = .ok (.aload_n 0, 1) := by decide +kernel
theorem dX3_joined_113 : decode cX3_joined 113 = .ok (.iload_n 2, 1) := by decide +kernel
theorem dX3_joined_114 : decode cX3_joined 114 = .ok (.iload_n 3, 1) := by decide +kernel
theorem dX3_joined_115 : decode cX3_joined 115 = .ok (.invokevirtual 127, 3) := by decide +kernel
theorem dX3_joined_118 : decode cX3_joined 118 = .ok (.ireturn, 1) := by decide +kernel
theorem dX3_joined_119 : decode cX3_joined 119 = .ok (.iload_n 3, 1) := by decide +kernel
theorem dX3_joined_120 : decode cX3_joined 120 = .ok (.iload 4, 2) := by decide +kernel
theorem dX3_joined_122 : decode cX3_joined 122 = .ok (.iand, 1) := by decide +kernel
theorem dX3_joined_123 : decode cX3_joined 123 = .ok (.ireturn, 1) := by decide +kernel
theorem dX3_joined_124 : decode cX3_joined 124 = .ok (.iload_n 3, 1) := by decide +kernel
theorem dX3_joined_125 : decode cX3_joined 125 = .ok (.iload_n 2, 1) := by decide +kernel
theorem dX3_joined_126 : decode cX3_joined 126 = .ok (.ior, 1) := by decide +kernel
theorem dX3_joined_127 : decode cX3_joined 127 = .ok (.ireturn, 1) := by decide +kernel
theorem dX3_joined_128 : decode cX3_joined 128 = .ok (.iload_n 2, 1) := by decide +kernel
theorem dX3_joined_129 : decode cX3_joined 129 = .ok (.iload_n 3, 1) := by decide +kernel
theorem dX3_joined_130 : decode cX3_joined 130 = .ok (.ixor, 1) := by decide +kernel
theorem dX3_joined_131 : decode cX3_joined 131 = .ok (.istore 5, 2) := by decide +kernel
theorem dX3_joined_133 : decode cX3_joined 133 = .ok (.aload_n 0, 1) := by decide +kernel
theorem dX3_joined_134 : decode cX3_joined 134 = .ok (.iload 5, 2) := by decide +kernel
theorem dX3_joined_136 : decode cX3_joined 136 = .ok (.iload 5, 2) := by decide +kernel
theorem dX3_joined_138 : decode cX3_joined 138 = .ok (.ifCond .eq 7, 3) := by decide +kernel
theorem dX3_joined_141 : decode cX3_joined 141 = .ok (.iconst 1, 1) := by decide +kernel
theorem dX3_joined_142 : decode cX3_joined 142 = .ok (.goto 4, 3) := by decide +kernel
theorem dX3_joined_145 : decode cX3_joined 145 = .ok (.iconst 0, 1) := by decide +kernel
theorem dX3_joined_146 : decode cX3_joined 146 = .ok (.iload_n 2, 1) := by decide +kernel
theorem dX3_joined_147 : decode cX3_joined 147 = .ok (.iload_n 3, 1) := by decide +kernel
theorem dX3_joined_148 : decode cX3_joined 148 = .ok (.iand, 1) := by decide +kernel
theorem dX3_joined_149 : decode cX3_joined 149 = .ok (.aload_n 0, 1) := by decide +kernel
theorem dX3_joined_150 : decode cX3_joined 150 = .ok (.invokevirtual 111, 3) := by decide +kernel
theorem dX3_joined_153 : decode cX3_joined 153 = .ok (.iand, 1) := by decide +kernel
theorem dX3_joined_154 : decode cX3_joined 154 = .ok (.ifCond .eq 7, 3) := by decide +kernel
theorem dX3_joined_157 : decode cX3_joined 157 = .ok (.iconst 1, 1) := by decide +kernel
theorem dX3_joined_158 : decode cX3_joined 158 = .ok (.goto 4, 3) := by decide +kernel
theorem dX3_joined_161 : decode cX3_joined 161 = .ok (.iconst 0, 1) := by decide +kernel
theorem dX3_joined_162 : decode cX3_joined 162 = .ok (.invokevirtual 117, 3) := by decide +kernel
theorem dX3_joined_165 : decode cX3_joined 165 = .ok (.iload 5, 2) := by decide +kernel
theorem dX3_joined_167 : decode cX3_joined 167 = .ok (.ireturn, 1) := by decide +kernel
theorem dX3_joined_168 : decode cX3_joined 168 = .ok (.iload_n 2, 1) := by decide +kernel
theorem dX3_joined_169 : decode cX3_joined 169 = .ok (.iload_n 3, 1) := by decide +kernel
theorem dX3_joined_170 : decode cX3_joined 170 = .ok (.iand, 1) := by decide +kernel
theorem dX3_joined_171 : decode cX3_joined 171 = .ok (.istore 5, 2) := by decide +kernel
theorem dX3_joined_173 : decode cX3_joined 173 = .ok (.aload_n 0, 1) := by decide +kernel
theorem dX3_joined_174 : decode cX3_joined 174 = .ok (.iload 5, 2) := by decide +kernel
theorem dX3_joined_176 : decode cX3_joined 176 = .ok (.iload 5, 2) := by decide +kernel
theorem dX3_joined_178 : decode cX3_joined 178 = .ok (.ifCond .eq 7, 3) := by decide +kernel
theorem dX3_joined_181 : decode cX3_joined 181 = .ok (.iconst 1, 1) := by decide +kernel
theorem dX3_joined_182 : decode cX3_joined 182 = .ok (.goto 4, 3) := by decide +kernel
theorem dX3_joined_185 : decode cX3_joined 185 = .ok (.iconst 0, 1) := by decide +kernel
theorem dX3_joined_186 : decode cX3_joined 186 = .ok (.iconst 0, 1) := by decide +kernel
theorem dX3_joined_187 : decode cX3_joined 187 = .ok (.invokevirtual 117, 3) := by decide +kernel
theorem dX3_joined_190 : decode cX3_joined 190 = .ok (.iload 5, 2) := by decide +kernel
theorem dX3_joined_192 : decode cX3_joined 192 = .ok (.ireturn, 1) := by decide +kernel
set_option maxRecDepth 20000 in
theorem ggX3_twoParts_X3_source : GoodIn wsX3_twoParts wsX3_source := goodIn_r _ [7, 8, 9, 10, 11, 12, 13, 6, 14, 1, 2, 15, 16, 17, 18, 19, 20, 21, 22, 23, 24, 25, 26, 27, 28, 29, 30, 31, 32, 33, 34, 35, 36, 37, 38, 39, 40, 41, 42, 43, 44, 45, 46, 47, 48, 49, 50, 51, 52, 53, 54, 55, 56, 129, 130, 131, 132, 133, 134, 135, 136, 137] (by decide +kernel) (by decide +kernel)
set_option maxRecDepth 20000 in
theorem gX3_twoParts_X3_source : GoodIn wsX3_twoParts (wsV RX3 131 RX3 yX3_source wsX3_source) := goodIn_app (goodIn_of _ (by decide +kernel)) ggX3_twoParts_X3_source
set_option maxRecDepth 20000 in
theorem ggX3_twoParts_X3_indexed : GoodIn wsX3_twoParts wsX3_indexed := goodIn_r _ [18, 9, 19, 20, 21, 6, 22, 23, 24, 25, 26, 27, 28, 8, 29, 30, 31, 32, 33, 34, 35, 36, 37, 38, 39, 40, 41, 42, 43, 1, 44, 2, 45, 46, 47, 48, 10, 49, 50, 51, 52, 129, 130, 131, 132, 133, 134, 135, 136, 137] (by decide +kernel) (by decide +kernel)
set_option maxRecDepth 20000 in
theorem gX3_twoParts_X3_indexed : GoodIn wsX3_twoParts (wsV RX3 100 RX3 yX3_indexed wsX3_indexed) := goodIn_app (goodIn_of _ (by decide +kernel)) ggX3_twoParts_X3_indexed
set_option maxRecDepth 20000 in
theorem ggX3_twoParts_X3_register : GoodIn wsX3_twoParts wsX3_register := goodIn_r _ [14, 10, 9, 1, 2, 129, 130, 131, 132, 133, 134, 135, 136, 137] (by decide +kernel) (by decide +kernel)
set_option maxRecDepth 20000 in
theorem gX3_twoParts_X3_register : GoodIn wsX3_twoParts (wsV RX3 97 RX3 yX3_register wsX3_register) := goodIn_app (goodIn_of _ (by decide +kernel)) ggX3_twoParts_X3_register
set_option maxRecDepth 20000 in
theorem ggX3_twoParts_X3_joined : GoodIn wsX3_twoParts wsX3_joined := goodIn_r _ [60, 61, 62, 63, 6, 64, 10, 8, 65, 66, 67, 68, 69, 70, 71, 72, 73, 74, 75, 76, 77, 78, 79, 80, 81, 9, 82, 83, 84, 85, 86, 87, 88, 89, 129, 130, 131, 132, 133, 134, 135, 136, 137] (by decide +kernel) (by decide +kernel)
set_option maxRecDepth 20000 in
theorem gX3_twoParts_X3_joined : GoodIn wsX3_twoParts (wsV RX3 134 RX3 yX3_joined wsX3_joined) := goodIn_app (goodIn_of _ (by decide +kernel)) ggX3_twoParts_X3_joined
set_option maxRecDepth 20000 in
theorem ggX3_twoParts_X3_write : GoodIn wsX3_twoParts wsX3_write := goodIn_r _ [93, 44, 10, 35, 36, 37, 6, 38, 9, 39, 8, 94, 95, 96, 97, 28, 29, 30, 31, 98, 99, 100, 101, 102, 103, 104, 105, 27, 106, 107, 108, 109, 110, 111, 112, 113, 114, 115, 116, 129, 130, 131, 132, 133, 134, 135, 136, 137] (by decide +kernel) (by decide +kernel)
set_option maxRecDepth 20000 in
theorem gX3_twoParts_X3_write : GoodIn wsX3_twoParts (wsV RX3 137 RX3 yX3_write wsX3_write) := goodIn_app (goodIn_of _ (by decide +kernel)) ggX3_twoParts_X3_write
set_option maxRecDepth 20000 in
theorem ggX3_twoParts_X3_sort : GoodIn wsX3_twoParts wsX3_sort := goodIn_r _ [119] (by decide +kernel) (by decide +kernel)
set_option maxRecDepth 20000 in
theorem gX3_twoParts_X3_sort : GoodIn wsX3_twoParts (va_wsS RX3 140 yX3_sort wsX3_sort) := goodIn_app (goodIn_of _ (by decide +kernel)) ggX3_twoParts_X3_sort
set_option maxRecDepth 20000 in
theorem ggX3_twoParts_X3_pick : GoodIn wsX3_twoParts wsX3_pick := goodIn_r _ [122] (by decide +kernel) (by decide +kernel)
set_option maxRecDepth 20000 in
theorem gX3_twoParts_X3_pick : GoodIn wsX3_twoParts (va_wsS RX3 143 yX3_pick wsX3_pick) := goodIn_app (goodIn_of _ (by decide +kernel)) ggX3_twoParts_X3_pick
set_option maxRecDepth 20000 in
theorem ggX3_twoParts_X3_spend : GoodIn wsX3_twoParts wsX3_spend := goodIn_r _ [126, 127, 128, 129, 130, 131, 132, 133, 134, 135, 136, 137] (by decide +kernel) (by decide +kernel)
set_option maxRecDepth 20000 in
theorem gX3_twoParts_X3_spend : GoodIn wsX3_twoParts (wsV RX3 146 RX3 yX3_spend wsX3_spend) := goodIn_app (goodIn_of _ (by decide +kernel)) ggX3_twoParts_X3_spend
theorem dX3_twoParts_0 : decode cX3_twoParts 0 = .ok (.iload_n 1, 1) := by decide +kernel
theorem dX3_twoParts_1 : decode cX3_twoParts 1 = .ok (.iconst 4, 1) := by decide +kernel
theorem dX3_twoParts_2 : decode cX3_twoParts 2 = .ok (.ishr, 1) := by decide +kernel
theorem dX3_twoParts_3 : decode cX3_twoParts 3 = .ok (.iconst 3, 1) := by decide +kernel
theorem dX3_twoParts_4 : decode cX3_twoParts 4 = .ok (.iand, 1) := by decide +kernel
theorem dX3_twoParts_5 : decode cX3_twoParts 5 = .ok (.istore_n 2, 1) := by decide +kernel
theorem dX3_twoParts_6 : decode cX3_twoParts 6 = .ok (.iload_n 1, 1) := by decide +kernel
theorem dX3_twoParts_7 : decode cX3_twoParts 7 = .ok (.bipush 8, 2) := by decide +kernel
theorem dX3_twoParts_9 : decode cX3_twoParts 9 = .ok (.ishr, 1) := by decide +kernel
theorem dX3_twoParts_10 : decode cX3_twoParts 10 = .ok (.bipush 15, 2) := by decide +kernel
theorem dX3_twoParts_12 : decode cX3_twoParts 12 = .ok (.iand, 1) := by decide +kernel
theorem dX3_twoParts_13 : decode cX3_twoParts 13 = .ok (.istore_n 3, 1) := by decide +kernel
theorem dX3_twoParts_14 : decode cX3_twoParts 14 = .ok (.iload_n 1, 1) := by decide +kernel
theorem dX3_twoParts_15 : decode cX3_twoParts 15 = .ok (.bipush 15, 2) := by decide +kernel
theorem dX3_twoParts_17 : decode cX3_twoParts 17 = .ok (.iand, 1) := by decide +kernel
theorem dX3_twoParts_18 : decode cX3_twoParts 18 = .ok (.istore 4, 2) := by decide +kernel
theorem dX3_twoParts_20 : decode cX3_twoParts 20 = .ok (.iload_n 1, 1) := by decide +kernel
theorem dX3_twoParts_21 : decode cX3_twoParts 21 = .ok (.sipush 128, 3) := by decide +kernel
theorem dX3_twoParts_24 : decode cX3_twoParts 24 = .ok (.iand, 1) := by decide +kernel
theorem dX3_twoParts_25 : decode cX3_twoParts 25 = .ok (.ifCond .eq 7, 3) := by decide +kernel
theorem dX3_twoParts_28 : decode cX3_twoParts 28 = .ok (.iconst 1, 1) := by decide +kernel
theorem dX3_twoParts_29 : decode cX3_twoParts 29 = .ok (.goto 4, 3) := by decide +kernel
theorem dX3_twoParts_32 : decode cX3_twoParts 32 = .ok (.iconst 0, 1) := by decide +kernel
theorem dX3_twoParts_33 : decode cX3_twoParts 33 = .ok (.istore 5, 2) := by decide +kernel
theorem dX3_twoParts_35 : decode cX3_twoParts 35 = .ok (.aload_n 0, 1) := by decide +kernel
theorem dX3_twoParts_36 : decode cX3_twoParts 36 = .ok (.iload_n 2, 1) := by decide +kernel
theorem dX3_twoParts_37 : decode cX3_twoParts 37 = .ok (.iload_n 3, 1) := by decide +kernel
theorem dX3_twoParts_38 : decode cX3_twoParts 38 = .ok (.invokevirtual 131, 3) := by decide +kernel
theorem dX3_twoParts_41 : decode cX3_twoParts 41 = .ok (.aload_n 0, 1) := by decide +kernel
theorem dX3_twoParts_42 : decode cX3_twoParts 42 = .ok (.getfield 80, 3) := by decide +kernel
theorem dX3_twoParts_45 : decode cX3_twoParts 45 = .ok (.istore 6, 2) := by decide +kernel
theorem dX3_twoParts_47 : decode cX3_twoParts 47 = .ok (.iload 5, 2) := by decide +kernel
theorem dX3_twoParts_49 : decode cX3_twoParts 49 = .ok (.ifCond .eq 12, 3) := by decide +kernel
theorem dX3_twoParts_52 : decode cX3_twoParts 52 = .ok (.aload_n 0, 1) := by decide +kernel
theorem dX3_twoParts_53 : decode cX3_twoParts 53 = .ok (.iload 4, 2) := by decide +kernel
theorem dX3_twoParts_55 : decode cX3_twoParts 55 = .ok (.invokevirtual 100, 3) := by decide +kernel
theorem dX3_twoParts_58 : decode cX3_twoParts 58 = .ok (.goto 9, 3) := by decide +kernel
theorem dX3_twoParts_61 : decode cX3_twoParts 61 = .ok (.aload_n 0, 1) := by decide +kernel
theorem dX3_twoParts_62 : decode cX3_twoParts 62 = .ok (.iload 4, 2) := by decide +kernel
theorem dX3_twoParts_64 : decode cX3_twoParts 64 = .ok (.invokevirtual 97, 3) := by decide +kernel
theorem dX3_twoParts_67 : decode cX3_twoParts 67 = .ok (.iload_n 1, 1) := by decide +kernel
theorem dX3_twoParts_68 : decode cX3_twoParts 68 = .ok (.bipush 12, 2) := by decide +kernel
theorem dX3_twoParts_70 : decode cX3_twoParts 70 = .ok (.ishr, 1) := by decide +kernel
theorem dX3_twoParts_71 : decode cX3_twoParts 71 = .ok (.istore 7, 2) := by decide +kernel
theorem dX3_twoParts_73 : decode cX3_twoParts 73 = .ok (.aload_n 0, 1) := by decide +kernel
theorem dX3_twoParts_74 : decode cX3_twoParts 74 = .ok (.iload 7, 2) := by decide +kernel
theorem dX3_twoParts_76 : decode cX3_twoParts 76 = .ok (.iload 6, 2) := by decide +kernel
theorem dX3_twoParts_78 : decode cX3_twoParts 78 = .ok (.aload_n 0, 1) := by decide +kernel
theorem dX3_twoParts_79 : decode cX3_twoParts 79 = .ok (.getfield 80, 3) := by decide +kernel
theorem dX3_twoParts_82 : decode cX3_twoParts 82 = .ok (.invokevirtual 134, 3) := by decide +kernel
theorem dX3_twoParts_85 : decode cX3_twoParts 85 = .ok (.istore 8, 2) := by decide +kernel
theorem dX3_twoParts_87 : decode cX3_twoParts 87 = .ok (.iload 7, 2) := by decide +kernel
theorem dX3_twoParts_89 : decode cX3_twoParts 89 = .ok (.bipush 9, 2) := by decide +kernel
theorem dX3_twoParts_91 : decode cX3_twoParts 91 = .ok (.if_icmp .eq 20, 3) := by decide +kernel
theorem dX3_twoParts_94 : decode cX3_twoParts 94 = .ok (.iload 7, 2) := by decide +kernel
theorem dX3_twoParts_96 : decode cX3_twoParts 96 = .ok (.bipush 11, 2) := by decide +kernel
theorem dX3_twoParts_98 : decode cX3_twoParts 98 = .ok (.if_icmp .eq 13, 3) := by decide +kernel
theorem dX3_twoParts_101 : decode cX3_twoParts 101 = .ok (.aload_n 0, 1) := by decide +kernel
theorem dX3_twoParts_102 : decode cX3_twoParts 102 = .ok (.aload_n 0, 1) := by decide +kernel
theorem dX3_twoParts_103 : decode cX3_twoParts 103 = .ok (.getfield 83, 3) := by decide +kernel
theorem dX3_twoParts_106 : decode cX3_twoParts 106 = .ok (.iload 8, 2) := by decide +kernel
theorem dX3_twoParts_108 : decode cX3_twoParts 108 = .ok (.invokevirtual 137, 3) := by decide +kernel
theorem dX3_twoParts_111 : decode cX3_twoParts 111 = .ok (.aload_n 0, 1) := by decide +kernel
theorem dX3_twoParts_112 : decode cX3_twoParts 112 = .ok (.iload 5, 2) := by decide +kernel
theorem dX3_twoParts_114 : decode cX3_twoParts 114 = .ok (.ifCond .eq 9, 3) := by decide +kernel
theorem dX3_twoParts_117 : decode cX3_twoParts 117 = .ok (.sipush 25940, 3) := by decide +kernel
theorem dX3_twoParts_120 : decode cX3_twoParts 120 = .ok (.goto 17, 3) := by decide +kernel
theorem dX3_twoParts_123 : decode cX3_twoParts 123 = .ok (.iload 4, 2) := by decide +kernel
theorem dX3_twoParts_125 : decode cX3_twoParts 125 = .ok (.ifCond .ne 9, 3) := by decide +kernel
theorem dX3_twoParts_128 : decode cX3_twoParts 128 = .ok (.sipush 13090, 3) := by decide +kernel
theorem dX3_twoParts_131 : decode cX3_twoParts 131 = .ok (.goto 6, 3) := by decide +kernel
theorem dX3_twoParts_134 : decode cX3_twoParts 134 = .ok (.sipush 12833, 3) := by decide +kernel
theorem dX3_twoParts_137 : decode cX3_twoParts 137 = .ok (.iload_n 2, 1) := by decide +kernel
theorem dX3_twoParts_138 : decode cX3_twoParts 138 = .ok (.iload_n 3, 1) := by decide +kernel
theorem dX3_twoParts_139 : decode cX3_twoParts 139 = .ok (.invokestatic 140, 3) := by decide +kernel
theorem dX3_twoParts_142 : decode cX3_twoParts 142 = .ok (.invokestatic 143, 3) := by decide +kernel
theorem dX3_twoParts_145 : decode cX3_twoParts 145 = .ok (.invokevirtual 146, 3) := by decide +kernel
theorem dX3_twoParts_148 : decode cX3_twoParts 148 = .ok (.return_, 1) := by decide +kernel
set_option maxRecDepth 20000 in
theorem ggX3_push_X3_setRegister : GoodIn wsX3_push wsX3_setRegister := goodIn_r _ [7, 1, 8, 9, 43, 44, 45, 46, 47, 48, 49, 50, 51] (by decide +kernel) (by decide +kernel)
set_option maxRecDepth 20000 in
theorem gX3_push_X3_setRegister : GoodIn wsX3_push (wsV RX3 39 RX3 yX3_setRegister wsX3_setRegister) := goodIn_app (goodIn_of _ (by decide +kernel)) ggX3_push_X3_setRegister
set_option maxRecDepth 20000 in
theorem ggX3_push_X3_write : GoodIn wsX3_push wsX3_write := goodIn_r _ [13, 2, 14, 3, 4, 5, 6, 7, 1, 8, 9, 15, 16, 17, 18, 19, 20, 21, 22, 23, 24, 25, 26, 27, 28, 29, 30, 31, 32, 33, 34, 35, 36, 37, 38, 39, 40, 41, 42, 43, 44, 45, 46, 47, 48, 49, 50, 51] (by decide +kernel) (by decide +kernel)
set_option maxRecDepth 20000 in
theorem gX3_push_X3_write : GoodIn wsX3_push (wsV RX3 137 RX3 yX3_write wsX3_write) := goodIn_app (goodIn_of _ (by decide +kernel)) ggX3_push_X3_write
theorem dX3_push_0 : decode cX3_push 0 = .ok (.aload_n 0, 1) := by decide +kernel
theorem dX3_push_1 : decode cX3_push 1 = .ok (.iconst 1, 1) := by decide +kernel
theorem dX3_push_2 : decode cX3_push 2 = .ok (.aload_n 0, 1) := by decide +kernel
theorem dX3_push_3 : decode cX3_push 3 = .ok (.getfield 14, 3) := by decide +kernel
theorem dX3_push_6 : decode cX3_push 6 = .ok (.iconst 1, 1) := by decide +kernel
theorem dX3_push_7 : decode cX3_push 7 = .ok (.iaload, 1) := by decide +kernel
theorem dX3_push_8 : decode cX3_push 8 = .ok (.iconst 2, 1) := by decide +kernel
theorem dX3_push_9 : decode cX3_push 9 = .ok (.isub, 1) := by decide +kernel
theorem dX3_push_10 : decode cX3_push 10 = .ok (.invokevirtual 39, 3) := by decide +kernel
theorem dX3_push_13 : decode cX3_push 13 = .ok (.aload_n 0, 1) := by decide +kernel
theorem dX3_push_14 : decode cX3_push 14 = .ok (.ldc 73, 2) := by decide +kernel
theorem dX3_push_16 : decode cX3_push 16 = .ok (.aload_n 0, 1) := by decide +kernel
theorem dX3_push_17 : decode cX3_push 17 = .ok (.getfield 14, 3) := by decide +kernel
theorem dX3_push_20 : decode cX3_push 20 = .ok (.iconst 1, 1) := by decide +kernel
theorem dX3_push_21 : decode cX3_push 21 = .ok (.iaload, 1) := by decide +kernel
theorem dX3_push_22 : decode cX3_push 22 = .ok (.iadd, 1) := by decide +kernel
theorem dX3_push_23 : decode cX3_push 23 = .ok (.iload_n 1, 1) := by decide +kernel
theorem dX3_push_24 : decode cX3_push 24 = .ok (.invokevirtual 137, 3) := by decide +kernel
theorem dX3_push_27 : decode cX3_push 27 = .ok (.return_, 1) := by decide +kernel
set_option maxRecDepth 20000 in
theorem ggX3_popped_X3_wordAt : GoodIn wsX3_popped wsX3_wordAt := goodIn_r _ [6, 7, 8, 9, 10, 11, 5, 12, 13, 14, 15, 21, 22, 23, 24, 25, 26, 27, 28, 29] (by decide +kernel) (by decide +kernel)
set_option maxRecDepth 20000 in
theorem gX3_popped_X3_wordAt : GoodIn wsX3_popped (wsV RX3 35 RX3 yX3_wordAt wsX3_wordAt) := goodIn_app (goodIn_of _ (by decide +kernel)) ggX3_popped_X3_wordAt
set_option maxRecDepth 20000 in
theorem ggX3_popped_X3_setRegister : GoodIn wsX3_popped wsX3_setRegister := goodIn_r _ [19, 1, 20, 9, 21, 22, 23, 24, 25, 26, 27, 28, 29] (by decide +kernel) (by decide +kernel)
set_option maxRecDepth 20000 in
theorem gX3_popped_X3_setRegister : GoodIn wsX3_popped (wsV RX3 39 RX3 yX3_setRegister wsX3_setRegister) := goodIn_app (goodIn_of _ (by decide +kernel)) ggX3_popped_X3_setRegister
theorem dX3_popped_0 : decode cX3_popped 0 = .ok (.aload_n 0, 1) := by decide +kernel
theorem dX3_popped_1 : decode cX3_popped 1 = .ok (.aload_n 0, 1) := by decide +kernel
theorem dX3_popped_2 : decode cX3_popped 2 = .ok (.getfield 14, 3) := by decide +kernel
theorem dX3_popped_5 : decode cX3_popped 5 = .ok (.iconst 1, 1) := by decide +kernel
theorem dX3_popped_6 : decode cX3_popped 6 = .ok (.iaload, 1) := by decide +kernel
theorem dX3_popped_7 : decode cX3_popped 7 = .ok (.invokevirtual 35, 3) := by decide +kernel
theorem dX3_popped_10 : decode cX3_popped 10 = .ok (.istore_n 1, 1) := by decide +kernel
theorem dX3_popped_11 : decode cX3_popped 11 = .ok (.aload_n 0, 1) := by decide +kernel
theorem dX3_popped_12 : decode cX3_popped 12 = .ok (.iconst 1, 1) := by decide +kernel
theorem dX3_popped_13 : decode cX3_popped 13 = .ok (.aload_n 0, 1) := by decide +kernel
theorem dX3_popped_14 : decode cX3_popped 14 = .ok (.getfield 14, 3) := by decide +kernel
theorem dX3_popped_17 : decode cX3_popped 17 = .ok (.iconst 1, 1) := by decide +kernel
theorem dX3_popped_18 : decode cX3_popped 18 = .ok (.iaload, 1) := by decide +kernel
theorem dX3_popped_19 : decode cX3_popped 19 = .ok (.iconst 2, 1) := by decide +kernel
theorem dX3_popped_20 : decode cX3_popped 20 = .ok (.iadd, 1) := by decide +kernel
theorem dX3_popped_21 : decode cX3_popped 21 = .ok (.invokevirtual 39, 3) := by decide +kernel
theorem dX3_popped_24 : decode cX3_popped 24 = .ok (.iload_n 1, 1) := by decide +kernel
theorem dX3_popped_25 : decode cX3_popped 25 = .ok (.ireturn, 1) := by decide +kernel
set_option maxRecDepth 20000 in
theorem ggX3_shifted_X3_write : GoodIn wsX3_shifted wsX3_write := goodIn_r _ [8, 9, 10, 11, 12, 13, 7, 14, 15, 16, 3, 17, 18, 19, 20, 21, 22, 23, 24, 25, 26, 27, 28, 29, 30, 31, 32, 33, 34, 35, 36, 37, 38, 39, 40, 41, 42, 43, 44, 62, 63, 64, 65, 66, 67, 68, 69, 70] (by decide +kernel) (by decide +kernel)
set_option maxRecDepth 20000 in
theorem gX3_shifted_X3_write : GoodIn wsX3_shifted (wsV RX3 137 RX3 yX3_write wsX3_write) := goodIn_app (goodIn_of _ (by decide +kernel)) ggX3_shifted_X3_write
set_option maxRecDepth 20000 in
theorem ggX3_shifted_X3_flag : GoodIn wsX3_shifted wsX3_flag := goodIn_r _ [48, 15, 62, 63, 64, 65, 66, 67, 68, 69, 70] (by decide +kernel) (by decide +kernel)
set_option maxRecDepth 20000 in
theorem gX3_shifted_X3_flag : GoodIn wsX3_shifted (wsV RX3 121 RX3 yX3_flag wsX3_flag) := goodIn_app (goodIn_of _ (by decide +kernel)) ggX3_shifted_X3_flag
set_option maxRecDepth 20000 in
theorem ggX3_shifted_X3_high : GoodIn wsX3_shifted wsX3_high := goodIn_r _ [52, 10, 53, 62, 63, 64, 65, 66, 67, 68, 69, 70] (by decide +kernel) (by decide +kernel)
set_option maxRecDepth 20000 in
theorem gX3_shifted_X3_high : GoodIn wsX3_shifted (wsV RX3 111 RX3 yX3_high wsX3_high) := goodIn_app (goodIn_of _ (by decide +kernel)) ggX3_shifted_X3_high
set_option maxRecDepth 20000 in
theorem ggX3_shifted_X3_flags : GoodIn wsX3_shifted wsX3_flags := goodIn_r _ [57, 58, 59, 60, 7, 61, 15, 49, 50, 51, 52, 10, 53, 62, 63, 64, 65, 66, 67, 68, 69, 70] (by decide +kernel) (by decide +kernel)
set_option maxRecDepth 20000 in
theorem gX3_shifted_X3_flags : GoodIn wsX3_shifted (wsV RX3 117 RX3 yX3_flags wsX3_flags) := goodIn_app (goodIn_of _ (by decide +kernel)) ggX3_shifted_X3_flags
theorem dX3_shifted_0 : decode cX3_shifted 0 = .ok (.aload_n 0, 1) := by decide +kernel
theorem dX3_shifted_1 : decode cX3_shifted 1 = .ok (.getfield 80, 3) := by decide +kernel
theorem dX3_shifted_4 : decode cX3_shifted 4 = .ok (.istore_n 2, 1) := by decide +kernel
theorem dX3_shifted_5 : decode cX3_shifted 5 = .ok (.aload_n 0, 1) := by decide +kernel
theorem dX3_shifted_6 : decode cX3_shifted 6 = .ok (.getfield 83, 3) := by decide +kernel
theorem dX3_shifted_9 : decode cX3_shifted 9 = .ok (.istore_n 3, 1) := by decide +kernel
theorem dX3_shifted_10 : decode cX3_shifted 10 = .ok (.iload_n 1, 1) := by decide +kernel
theorem dX3_shifted_11 : decode cX3_shifted 11 = .ok (.iconst 1, 1) := by decide +kernel
theorem dX3_shifted_12 : decode cX3_shifted 12 = .ok (.if_icmp .ne 21, 3) := by decide +kernel
theorem dX3_shifted_15 : decode cX3_shifted 15 = .ok (.aload_n 0, 1) := by decide +kernel
theorem dX3_shifted_16 : decode cX3_shifted 16 = .ok (.iload_n 3, 1) := by decide +kernel
theorem dX3_shifted_17 : decode cX3_shifted 17 = .ok (.iload_n 2, 1) := by decide +kernel
theorem dX3_shifted_18 : decode cX3_shifted 18 = .ok (.bipush 8, 2) := by decide +kernel
theorem dX3_shifted_20 : decode cX3_shifted 20 = .ok (.ishl, 1) := by decide +kernel
theorem dX3_shifted_21 : decode cX3_shifted 21 = .ok (.iload_n 2, 1) := by decide +kernel
theorem dX3_shifted_22 : decode cX3_shifted 22 = .ok (.bipush 8, 2) := by decide +kernel
theorem dX3_shifted_24 : decode cX3_shifted 24 = .ok (.ishr, 1) := by decide +kernel
theorem dX3_shifted_25 : decode cX3_shifted 25 = .ok (.ior, 1) := by decide +kernel
theorem dX3_shifted_26 : decode cX3_shifted 26 = .ok (.ldc 50, 2) := by decide +kernel
theorem dX3_shifted_28 : decode cX3_shifted 28 = .ok (.iand, 1) := by decide +kernel
theorem dX3_shifted_29 : decode cX3_shifted 29 = .ok (.invokevirtual 137, 3) := by decide +kernel
theorem dX3_shifted_32 : decode cX3_shifted 32 = .ok (.return_, 1) := by decide +kernel
theorem dX3_shifted_33 : decode cX3_shifted 33 = .ok (.iload_n 2, 1) := by decide +kernel
theorem dX3_shifted_34 : decode cX3_shifted 34 = .ok (.iconst 1, 1) := by decide +kernel
theorem dX3_shifted_35 : decode cX3_shifted 35 = .ok (.ishr, 1) := by decide +kernel
theorem dX3_shifted_36 : decode cX3_shifted 36 = .ok (.iload_n 1, 1) := by decide +kernel
theorem dX3_shifted_37 : decode cX3_shifted 37 = .ok (.ifCond .ne 16, 3) := by decide +kernel
theorem dX3_shifted_40 : decode cX3_shifted 40 = .ok (.aload_n 0, 1) := by decide +kernel
theorem dX3_shifted_41 : decode cX3_shifted 41 = .ok (.iconst 1, 1) := by decide +kernel
theorem dX3_shifted_42 : decode cX3_shifted 42 = .ok (.invokevirtual 121, 3) := by decide +kernel
theorem dX3_shifted_45 : decode cX3_shifted 45 = .ok (.aload_n 0, 1) := by decide +kernel
theorem dX3_shifted_46 : decode cX3_shifted 46 = .ok (.invokevirtual 111, 3) := by decide +kernel
theorem dX3_shifted_49 : decode cX3_shifted 49 = .ok (.imul, 1) := by decide +kernel
theorem dX3_shifted_50 : decode cX3_shifted 50 = .ok (.goto 9, 3) := by decide +kernel
theorem dX3_shifted_53 : decode cX3_shifted 53 = .ok (.iload_n 2, 1) := by decide +kernel
theorem dX3_shifted_54 : decode cX3_shifted 54 = .ok (.aload_n 0, 1) := by decide +kernel
theorem dX3_shifted_55 : decode cX3_shifted 55 = .ok (.invokevirtual 111, 3) := by decide +kernel
theorem dX3_shifted_58 : decode cX3_shifted 58 = .ok (.iand, 1) := by decide +kernel
theorem dX3_shifted_59 : decode cX3_shifted 59 = .ok (.ior, 1) := by decide +kernel
theorem dX3_shifted_60 : decode cX3_shifted 60 = .ok (.istore 4, 2) := by decide +kernel
theorem dX3_shifted_62 : decode cX3_shifted 62 = .ok (.iload_n 1, 1) := by decide +kernel
theorem dX3_shifted_63 : decode cX3_shifted 63 = .ok (.iconst 3, 1) := by decide +kernel
theorem dX3_shifted_64 : decode cX3_shifted 64 = .ok (.if_icmp .ne 10, 3) := by decide +kernel
theorem dX3_shifted_67 : decode cX3_shifted 67 = .ok (.iload_n 2, 1) := by decide +kernel
theorem dX3_shifted_68 : decode cX3_shifted 68 = .ok (.i2b, 1) := by decide +kernel
theorem dX3_shifted_69 : decode cX3_shifted 69 = .ok (.ldc 50, 2) := by decide +kernel
theorem dX3_shifted_71 : decode cX3_shifted 71 = .ok (.iand, 1) := by decide +kernel
theorem dX3_shifted_72 : decode cX3_shifted 72 = .ok (.istore 4, 2) := by decide +kernel
theorem dX3_shifted_74 : decode cX3_shifted 74 = .ok (.aload_n 0, 1) := by decide +kernel
theorem dX3_shifted_75 : decode cX3_shifted 75 = .ok (.iload 4, 2) := by decide +kernel
theorem dX3_shifted_77 : decode cX3_shifted 77 = .ok (.iload_n 1, 1) := by decide +kernel
theorem dX3_shifted_78 : decode cX3_shifted 78 = .ok (.iconst 3, 1) := by decide +kernel
theorem dX3_shifted_79 : decode cX3_shifted 79 = .ok (.if_icmp .ne 16, 3) := by decide +kernel
theorem dX3_shifted_82 : decode cX3_shifted 82 = .ok (.iload 4, 2) := by decide +kernel
theorem dX3_shifted_84 : decode cX3_shifted 84 = .ok (.ifCond .eq 7, 3) := by decide +kernel
theorem dX3_shifted_87 : decode cX3_shifted 87 = .ok (.iconst 1, 1) := by decide +kernel
theorem dX3_shifted_88 : decode cX3_shifted 88 = .ok (.goto 18, 3) := by decide +kernel
theorem dX3_shifted_91 : decode cX3_shifted 91 = .ok (.iconst 0, 1) := by decide +kernel
theorem dX3_shifted_92 : decode cX3_shifted 92 = .ok (.goto 14, 3) := by decide +kernel
theorem dX3_shifted_95 : decode cX3_shifted 95 = .ok (.iload_n 2, 1) := by decide +kernel
theorem dX3_shifted_96 : decode cX3_shifted 96 = .ok (.iconst 1, 1) := by decide +kernel
theorem dX3_shifted_97 : decode cX3_shifted 97 = .ok (.iand, 1) := by decide +kernel
theorem dX3_shifted_98 : decode cX3_shifted 98 = .ok (.ifCond .eq 7, 3) := by decide +kernel
theorem dX3_shifted_101 : decode cX3_shifted 101 = .ok (.iconst 1, 1) := by decide +kernel
theorem dX3_shifted_102 : decode cX3_shifted 102 = .ok (.goto 4, 3) := by decide +kernel
theorem dX3_shifted_105 : decode cX3_shifted 105 = .ok (.iconst 0, 1) := by decide +kernel
theorem dX3_shifted_106 : decode cX3_shifted 106 = .ok (.iconst 0, 1) := by decide +kernel
theorem dX3_shifted_107 : decode cX3_shifted 107 = .ok (.invokevirtual 117, 3) := by decide +kernel
theorem dX3_shifted_110 : decode cX3_shifted 110 = .ok (.aload_n 0, 1) := by decide +kernel
theorem dX3_shifted_111 : decode cX3_shifted 111 = .ok (.iload_n 3, 1) := by decide +kernel
theorem dX3_shifted_112 : decode cX3_shifted 112 = .ok (.iload 4, 2) := by decide +kernel
theorem dX3_shifted_114 : decode cX3_shifted 114 = .ok (.invokevirtual 137, 3) := by decide +kernel
theorem dX3_shifted_117 : decode cX3_shifted 117 = .ok (.return_, 1) := by decide +kernel
set_option maxRecDepth 20000 in
theorem ggX3_onePart_X3_popped : GoodIn wsX3_onePart wsX3_popped := goodIn_r _ [7, 2, 8, 9, 10, 6, 11, 12, 13, 14, 15, 16, 17, 18, 19, 20, 21, 22, 23, 24, 25, 125, 126, 127, 128, 129, 130, 131, 132, 133] (by decide +kernel) (by decide +kernel)
set_option maxRecDepth 20000 in
theorem gX3_onePart_X3_popped : GoodIn wsX3_onePart (wsV RX3 149 RX3 yX3_popped wsX3_popped) := goodIn_app (goodIn_of _ (by decide +kernel)) ggX3_onePart_X3_popped
set_option maxRecDepth 20000 in
theorem ggX3_onePart_X3_setRegister : GoodIn wsX3_onePart wsX3_setRegister := goodIn_r _ [24, 2, 25, 14, 125, 126, 127, 128, 129, 130, 131, 132, 133] (by decide +kernel) (by decide +kernel)
set_option maxRecDepth 20000 in
theorem gX3_onePart_X3_setRegister : GoodIn wsX3_onePart (wsV RX3 39 RX3 yX3_setRegister wsX3_setRegister) := goodIn_app (goodIn_of _ (by decide +kernel)) ggX3_onePart_X3_setRegister
set_option maxRecDepth 20000 in
theorem ggX3_onePart_X3_spend : GoodIn wsX3_onePart wsX3_spend := goodIn_r _ [29, 30, 31, 125, 126, 127, 128, 129, 130, 131, 132, 133] (by decide +kernel) (by decide +kernel)
set_option maxRecDepth 20000 in
theorem gX3_onePart_X3_spend : GoodIn wsX3_onePart (wsV RX3 146 RX3 yX3_spend wsX3_spend) := goodIn_app (goodIn_of _ (by decide +kernel)) ggX3_onePart_X3_spend
set_option maxRecDepth 20000 in
theorem ggX3_onePart_X3_source : GoodIn wsX3_onePart wsX3_source := goodIn_r _ [35, 14, 2, 36, 37, 38, 39, 6, 40, 1, 41, 42, 43, 44, 45, 46, 47, 48, 49, 8, 9, 10, 11, 12, 13, 15, 16, 17, 18, 19, 20, 21, 22, 23, 24, 25, 50, 51, 52, 53, 54, 55, 56, 57, 58, 59, 60, 61, 62, 63, 64, 65, 66, 125, 126, 127, 128, 129, 130, 131, 132, 133] (by decide +kernel) (by decide +kernel)
set_option maxRecDepth 20000 in
theorem gX3_onePart_X3_source : GoodIn wsX3_onePart (wsV RX3 131 RX3 yX3_source wsX3_source) := goodIn_app (goodIn_of _ (by decide +kernel)) ggX3_onePart_X3_source
set_option maxRecDepth 20000 in
theorem ggX3_onePart_X3_sort : GoodIn wsX3_onePart wsX3_sort := goodIn_r _ [69] (by decide +kernel) (by decide +kernel)
set_option maxRecDepth 20000 in
theorem gX3_onePart_X3_sort : GoodIn wsX3_onePart (va_wsS RX3 140 yX3_sort wsX3_sort) := goodIn_app (goodIn_of _ (by decide +kernel)) ggX3_onePart_X3_sort
set_option maxRecDepth 20000 in
theorem ggX3_onePart_X3_shifted : GoodIn wsX3_onePart wsX3_shifted := goodIn_r _ [73, 1, 41, 14, 74, 75, 76, 6, 77, 54, 36, 21, 22, 23, 24, 2, 25, 78, 79, 80, 81, 13, 15, 16, 17, 82, 83, 84, 85, 86, 87, 88, 89, 12, 90, 91, 92, 93, 94, 95, 96, 97, 98, 99, 100, 101, 102, 103, 104, 105, 106, 107, 108, 109, 110, 111, 112, 113, 114, 115, 116, 117, 125, 126, 127, 128, 129, 130, 131, 132, 133] (by decide +kernel) (by decide +kernel)
set_option maxRecDepth 20000 in
theorem gX3_onePart_X3_shifted : GoodIn wsX3_onePart (wsV RX3 152 RX3 yX3_shifted wsX3_shifted) := goodIn_app (goodIn_of _ (by decide +kernel)) ggX3_onePart_X3_shifted
set_option maxRecDepth 20000 in
theorem ggX3_onePart_X3_pick : GoodIn wsX3_onePart wsX3_pick := goodIn_r _ [120] (by decide +kernel) (by decide +kernel)
set_option maxRecDepth 20000 in
theorem gX3_onePart_X3_pick : GoodIn wsX3_onePart (va_wsS RX3 143 yX3_pick wsX3_pick) := goodIn_app (goodIn_of _ (by decide +kernel)) ggX3_onePart_X3_pick
set_option maxRecDepth 20000 in
theorem ggX3_onePart_X3_push : GoodIn wsX3_onePart wsX3_push := goodIn_r _ [124, 2, 54, 21, 22, 23, 6, 24, 25, 14, 74, 75, 76, 77, 36, 78, 79, 80, 81, 13, 15, 16, 17, 82, 83, 84, 85, 86, 87, 88, 89, 12, 90, 91, 92, 93, 94, 95, 96, 97, 98, 99, 100, 125, 126, 127, 128, 129, 130, 131, 132, 133] (by decide +kernel) (by decide +kernel)
set_option maxRecDepth 20000 in
theorem gX3_onePart_X3_push : GoodIn wsX3_onePart (wsV RX3 155 RX3 yX3_push wsX3_push) := goodIn_app (goodIn_of _ (by decide +kernel)) ggX3_onePart_X3_push
theorem dX3_onePart_0 : decode cX3_onePart 0 = .ok (.iload_n 1, 1) := by decide +kernel
theorem dX3_onePart_1 : decode cX3_onePart 1 = .ok (.bipush 7, 2) := by decide +kernel
theorem dX3_onePart_3 : decode cX3_onePart 3 = .ok (.ishr, 1) := by decide +kernel
theorem dX3_onePart_4 : decode cX3_onePart 4 = .ok (.bipush 7, 2) := by decide +kernel
theorem dX3_onePart_6 : decode cX3_onePart 6 = .ok (.iand, 1) := by decide +kernel
theorem dX3_onePart_7 : decode cX3_onePart 7 = .ok (.istore_n 2, 1) := by decide +kernel
theorem dX3_onePart_8 : decode cX3_onePart 8 = .ok (.iload_n 1, 1) := by decide +kernel
theorem dX3_onePart_9 : decode cX3_onePart 9 = .ok (.iconst 4, 1) := by decide +kernel
theorem dX3_onePart_10 : decode cX3_onePart 10 = .ok (.ishr, 1) := by decide +kernel
theorem dX3_onePart_11 : decode cX3_onePart 11 = .ok (.iconst 3, 1) := by decide +kernel
theorem dX3_onePart_12 : decode cX3_onePart 12 = .ok (.iand, 1) := by decide +kernel
theorem dX3_onePart_13 : decode cX3_onePart 13 = .ok (.istore_n 3, 1) := by decide +kernel
theorem dX3_onePart_14 : decode cX3_onePart 14 = .ok (.iload_n 1, 1) := by decide +kernel
theorem dX3_onePart_15 : decode cX3_onePart 15 = .ok (.bipush 15, 2) := by decide +kernel
theorem dX3_onePart_17 : decode cX3_onePart 17 = .ok (.iand, 1) := by decide +kernel
theorem dX3_onePart_18 : decode cX3_onePart 18 = .ok (.istore 4, 2) := by decide +kernel
theorem dX3_onePart_20 : decode cX3_onePart 20 = .ok (.iload_n 2, 1) := by decide +kernel
theorem dX3_onePart_21 : decode cX3_onePart 21 = .ok (.bipush 6, 2) := by decide +kernel
theorem dX3_onePart_23 : decode cX3_onePart 23 = .ok (.if_icmp .ne 27, 3) := by decide +kernel
theorem dX3_onePart_26 : decode cX3_onePart 26 = .ok (.aload_n 0, 1) := by decide +kernel
theorem dX3_onePart_27 : decode cX3_onePart 27 = .ok (.iconst 2, 1) := by decide +kernel
theorem dX3_onePart_28 : decode cX3_onePart 28 = .ok (.aload_n 0, 1) := by decide +kernel
theorem dX3_onePart_29 : decode cX3_onePart 29 = .ok (.invokevirtual 149, 3) := by decide +kernel
theorem dX3_onePart_32 : decode cX3_onePart 32 = .ok (.invokevirtual 39, 3) := by decide +kernel
theorem dX3_onePart_35 : decode cX3_onePart 35 = .ok (.aload_n 0, 1) := by decide +kernel
theorem dX3_onePart_36 : decode cX3_onePart 36 = .ok (.iconst 0, 1) := by decide +kernel
theorem dX3_onePart_37 : decode cX3_onePart 37 = .ok (.aload_n 0, 1) := by decide +kernel
theorem dX3_onePart_38 : decode cX3_onePart 38 = .ok (.invokevirtual 149, 3) := by decide +kernel
theorem dX3_onePart_41 : decode cX3_onePart 41 = .ok (.invokevirtual 39, 3) := by decide +kernel
theorem dX3_onePart_44 : decode cX3_onePart 44 = .ok (.aload_n 0, 1) := by decide +kernel
theorem dX3_onePart_45 : decode cX3_onePart 45 = .ok (.iconst 5, 1) := by decide +kernel
theorem dX3_onePart_46 : decode cX3_onePart 46 = .ok (.invokevirtual 146, 3) := by decide +kernel
theorem dX3_onePart_49 : decode cX3_onePart 49 = .ok (.return_, 1) := by decide +kernel
theorem dX3_onePart_50 : decode cX3_onePart 50 = .ok (.aload_n 0, 1) := by decide +kernel
theorem dX3_onePart_51 : decode cX3_onePart 51 = .ok (.iload_n 3, 1) := by decide +kernel
theorem dX3_onePart_52 : decode cX3_onePart 52 = .ok (.iload 4, 2) := by decide +kernel
theorem dX3_onePart_54 : decode cX3_onePart 54 = .ok (.invokevirtual 131, 3) := by decide +kernel
theorem dX3_onePart_57 : decode cX3_onePart 57 = .ok (.iload_n 3, 1) := by decide +kernel
theorem dX3_onePart_58 : decode cX3_onePart 58 = .ok (.iload 4, 2) := by decide +kernel
theorem dX3_onePart_60 : decode cX3_onePart 60 = .ok (.invokestatic 140, 3) := by decide +kernel
theorem dX3_onePart_63 : decode cX3_onePart 63 = .ok (.istore 5, 2) := by decide +kernel
theorem dX3_onePart_65 : decode cX3_onePart 65 = .ok (.iload_n 2, 1) := by decide +kernel
theorem dX3_onePart_66 : decode cX3_onePart 66 = .ok (.iconst 4, 1) := by decide +kernel
theorem dX3_onePart_67 : decode cX3_onePart 67 = .ok (.if_icmp .ge 23, 3) := by decide +kernel
theorem dX3_onePart_70 : decode cX3_onePart 70 = .ok (.aload_n 0, 1) := by decide +kernel
theorem dX3_onePart_71 : decode cX3_onePart 71 = .ok (.iload_n 2, 1) := by decide +kernel
theorem dX3_onePart_72 : decode cX3_onePart 72 = .ok (.invokevirtual 152, 3) := by decide +kernel
theorem dX3_onePart_75 : decode cX3_onePart 75 = .ok (.aload_n 0, 1) := by decide +kernel
theorem dX3_onePart_76 : decode cX3_onePart 76 = .ok (.sipush 17201, 3) := by decide +kernel
theorem dX3_onePart_79 : decode cX3_onePart 79 = .ok (.iload 5, 2) := by decide +kernel
theorem dX3_onePart_81 : decode cX3_onePart 81 = .ok (.invokestatic 143, 3) := by decide +kernel
theorem dX3_onePart_84 : decode cX3_onePart 84 = .ok (.invokevirtual 146, 3) := by decide +kernel
theorem dX3_onePart_87 : decode cX3_onePart 87 = .ok (.goto 80, 3) := by decide +kernel
theorem dX3_onePart_90 : decode cX3_onePart 90 = .ok (.iload_n 2, 1) := by decide +kernel
theorem dX3_onePart_91 : decode cX3_onePart 91 = .ok (.iconst 4, 1) := by decide +kernel
theorem dX3_onePart_92 : decode cX3_onePart 92 = .ok (.if_icmp .ne 40, 3) := by decide +kernel
theorem dX3_onePart_95 : decode cX3_onePart 95 = .ok (.aload_n 0, 1) := by decide +kernel
theorem dX3_onePart_96 : decode cX3_onePart 96 = .ok (.aload_n 0, 1) := by decide +kernel
theorem dX3_onePart_97 : decode cX3_onePart 97 = .ok (.getfield 80, 3) := by decide +kernel
theorem dX3_onePart_100 : decode cX3_onePart 100 = .ok (.invokevirtual 155, 3) := by decide +kernel
theorem dX3_onePart_103 : decode cX3_onePart 103 = .ok (.aload_n 0, 1) := by decide +kernel
theorem dX3_onePart_104 : decode cX3_onePart 104 = .ok (.iload_n 3, 1) := by decide +kernel
theorem dX3_onePart_105 : decode cX3_onePart 105 = .ok (.iconst 3, 1) := by decide +kernel
theorem dX3_onePart_106 : decode cX3_onePart 106 = .ok (.if_icmp .ne 12, 3) := by decide +kernel
theorem dX3_onePart_109 : decode cX3_onePart 109 = .ok (.iload 4, 2) := by decide +kernel
theorem dX3_onePart_111 : decode cX3_onePart 111 = .ok (.ifCond .ne 7, 3) := by decide +kernel
theorem dX3_onePart_114 : decode cX3_onePart 114 = .ok (.iconst 4, 1) := by decide +kernel
theorem dX3_onePart_115 : decode cX3_onePart 115 = .ok (.goto 11, 3) := by decide +kernel
theorem dX3_onePart_118 : decode cX3_onePart 118 = .ok (.sipush 21827, 3) := by decide +kernel
theorem dX3_onePart_121 : decode cX3_onePart 121 = .ok (.iload 5, 2) := by decide +kernel
theorem dX3_onePart_123 : decode cX3_onePart 123 = .ok (.invokestatic 143, 3) := by decide +kernel
theorem dX3_onePart_126 : decode cX3_onePart 126 = .ok (.invokevirtual 146, 3) := by decide +kernel
theorem dX3_onePart_129 : decode cX3_onePart 129 = .ok (.goto 38, 3) := by decide +kernel
theorem dX3_onePart_132 : decode cX3_onePart 132 = .ok (.aload_n 0, 1) := by decide +kernel
theorem dX3_onePart_133 : decode cX3_onePart 133 = .ok (.getfield 80, 3) := by decide +kernel
theorem dX3_onePart_136 : decode cX3_onePart 136 = .ok (.istore 6, 2) := by decide +kernel
theorem dX3_onePart_138 : decode cX3_onePart 138 = .ok (.aload_n 0, 1) := by decide +kernel
theorem dX3_onePart_139 : decode cX3_onePart 139 = .ok (.aload_n 0, 1) := by decide +kernel
theorem dX3_onePart_140 : decode cX3_onePart 140 = .ok (.getfield 14, 3) := by decide +kernel
theorem dX3_onePart_143 : decode cX3_onePart 143 = .ok (.iconst 0, 1) := by decide +kernel
theorem dX3_onePart_144 : decode cX3_onePart 144 = .ok (.iaload, 1) := by decide +kernel
theorem dX3_onePart_145 : decode cX3_onePart 145 = .ok (.invokevirtual 155, 3) := by decide +kernel
theorem dX3_onePart_148 : decode cX3_onePart 148 = .ok (.aload_n 0, 1) := by decide +kernel
theorem dX3_onePart_149 : decode cX3_onePart 149 = .ok (.iconst 0, 1) := by decide +kernel
theorem dX3_onePart_150 : decode cX3_onePart 150 = .ok (.iload 6, 2) := by decide +kernel
theorem dX3_onePart_152 : decode cX3_onePart 152 = .ok (.invokevirtual 39, 3) := by decide +kernel
theorem dX3_onePart_155 : decode cX3_onePart 155 = .ok (.aload_n 0, 1) := by decide +kernel
theorem dX3_onePart_156 : decode cX3_onePart 156 = .ok (.sipush 21828, 3) := by decide +kernel
theorem dX3_onePart_159 : decode cX3_onePart 159 = .ok (.iload 5, 2) := by decide +kernel
theorem dX3_onePart_161 : decode cX3_onePart 161 = .ok (.invokestatic 143, 3) := by decide +kernel
theorem dX3_onePart_164 : decode cX3_onePart 164 = .ok (.invokevirtual 146, 3) := by decide +kernel
theorem dX3_onePart_167 : decode cX3_onePart 167 = .ok (.return_, 1) := by decide +kernel
set_option maxRecDepth 20000 in
theorem ggX3_jumps_X3_flag : GoodIn wsX3_jumps wsX3_flag := goodIn_r _ [5, 6, 7, 8, 9, 10, 11, 12, 13, 14, 15] (by decide +kernel) (by decide +kernel)
set_option maxRecDepth 20000 in
theorem gX3_jumps_X3_flag : GoodIn wsX3_jumps (wsV RX3 121 RX3 yX3_flag wsX3_flag) := goodIn_app (goodIn_of _ (by decide +kernel)) ggX3_jumps_X3_flag
theorem dX3_jumps_0 : decode cX3_jumps 0 = .ok (.iload_n 1, 1) := by decide +kernel
theorem dX3_jumps_1 : decode cX3_jumps 1 = .ok (.tableswitch 158 0 6 #[43, 57, 72, 86, 101, 116, 137], 43) := by decide +kernel
theorem dX3_jumps_44 : decode cX3_jumps 44 = .ok (.aload_n 0, 1) := by decide +kernel
theorem dX3_jumps_45 : decode cX3_jumps 45 = .ok (.iconst 2, 1) := by decide +kernel
theorem dX3_jumps_46 : decode cX3_jumps 46 = .ok (.invokevirtual 121, 3) := by decide +kernel
theorem dX3_jumps_49 : decode cX3_jumps 49 = .ok (.ifCond .ne 7, 3) := by decide +kernel
theorem dX3_jumps_52 : decode cX3_jumps 52 = .ok (.iconst 1, 1) := by decide +kernel
theorem dX3_jumps_53 : decode cX3_jumps 53 = .ok (.goto 4, 3) := by decide +kernel
theorem dX3_jumps_56 : decode cX3_jumps 56 = .ok (.iconst 0, 1) := by decide +kernel
theorem dX3_jumps_57 : decode cX3_jumps 57 = .ok (.ireturn, 1) := by decide +kernel
theorem dX3_jumps_58 : decode cX3_jumps 58 = .ok (.aload_n 0, 1) := by decide +kernel
theorem dX3_jumps_59 : decode cX3_jumps 59 = .ok (.iconst 2, 1) := by decide +kernel
theorem dX3_jumps_60 : decode cX3_jumps 60 = .ok (.invokevirtual 121, 3) := by decide +kernel
theorem dX3_jumps_63 : decode cX3_jumps 63 = .ok (.iconst 1, 1) := by decide +kernel
theorem dX3_jumps_64 : decode cX3_jumps 64 = .ok (.if_icmp .ne 7, 3) := by decide +kernel
theorem dX3_jumps_67 : decode cX3_jumps 67 = .ok (.iconst 1, 1) := by decide +kernel
theorem dX3_jumps_68 : decode cX3_jumps 68 = .ok (.goto 4, 3) := by decide +kernel
theorem dX3_jumps_71 : decode cX3_jumps 71 = .ok (.iconst 0, 1) := by decide +kernel
theorem dX3_jumps_72 : decode cX3_jumps 72 = .ok (.ireturn, 1) := by decide +kernel
theorem dX3_jumps_73 : decode cX3_jumps 73 = .ok (.aload_n 0, 1) := by decide +kernel
theorem dX3_jumps_74 : decode cX3_jumps 74 = .ok (.iconst 1, 1) := by decide +kernel
theorem dX3_jumps_75 : decode cX3_jumps 75 = .ok (.invokevirtual 121, 3) := by decide +kernel
theorem dX3_jumps_78 : decode cX3_jumps 78 = .ok (.ifCond .ne 7, 3) := by decide +kernel
theorem dX3_jumps_81 : decode cX3_jumps 81 = .ok (.iconst 1, 1) := by decide +kernel
theorem dX3_jumps_82 : decode cX3_jumps 82 = .ok (.goto 4, 3) := by decide +kernel
theorem dX3_jumps_85 : decode cX3_jumps 85 = .ok (.iconst 0, 1) := by decide +kernel
theorem dX3_jumps_86 : decode cX3_jumps 86 = .ok (.ireturn, 1) := by decide +kernel
theorem dX3_jumps_87 : decode cX3_jumps 87 = .ok (.aload_n 0, 1) := by decide +kernel
theorem dX3_jumps_88 : decode cX3_jumps 88 = .ok (.iconst 1, 1) := by decide +kernel
theorem dX3_jumps_89 : decode cX3_jumps 89 = .ok (.invokevirtual 121, 3) := by decide +kernel
theorem dX3_jumps_92 : decode cX3_jumps 92 = .ok (.iconst 1, 1) := by decide +kernel
theorem dX3_jumps_93 : decode cX3_jumps 93 = .ok (.if_icmp .ne 7, 3) := by decide +kernel
theorem dX3_jumps_96 : decode cX3_jumps 96 = .ok (.iconst 1, 1) := by decide +kernel
theorem dX3_jumps_97 : decode cX3_jumps 97 = .ok (.goto 4, 3) := by decide +kernel
theorem dX3_jumps_100 : decode cX3_jumps 100 = .ok (.iconst 0, 1) := by decide +kernel
theorem dX3_jumps_101 : decode cX3_jumps 101 = .ok (.ireturn, 1) := by decide +kernel
theorem dX3_jumps_102 : decode cX3_jumps 102 = .ok (.aload_n 0, 1) := by decide +kernel
theorem dX3_jumps_103 : decode cX3_jumps 103 = .ok (.iconst 4, 1) := by decide +kernel
theorem dX3_jumps_104 : decode cX3_jumps 104 = .ok (.invokevirtual 121, 3) := by decide +kernel
theorem dX3_jumps_107 : decode cX3_jumps 107 = .ok (.iconst 1, 1) := by decide +kernel
theorem dX3_jumps_108 : decode cX3_jumps 108 = .ok (.if_icmp .ne 7, 3) := by decide +kernel
theorem dX3_jumps_111 : decode cX3_jumps 111 = .ok (.iconst 1, 1) := by decide +kernel
theorem dX3_jumps_112 : decode cX3_jumps 112 = .ok (.goto 4, 3) := by decide +kernel
theorem dX3_jumps_115 : decode cX3_jumps 115 = .ok (.iconst 0, 1) := by decide +kernel
theorem dX3_jumps_116 : decode cX3_jumps 116 = .ok (.ireturn, 1) := by decide +kernel
theorem dX3_jumps_117 : decode cX3_jumps 117 = .ok (.aload_n 0, 1) := by decide +kernel
theorem dX3_jumps_118 : decode cX3_jumps 118 = .ok (.iconst 4, 1) := by decide +kernel
theorem dX3_jumps_119 : decode cX3_jumps 119 = .ok (.invokevirtual 121, 3) := by decide +kernel
theorem dX3_jumps_122 : decode cX3_jumps 122 = .ok (.aload_n 0, 1) := by decide +kernel
theorem dX3_jumps_123 : decode cX3_jumps 123 = .ok (.sipush 256, 3) := by decide +kernel
theorem dX3_jumps_126 : decode cX3_jumps 126 = .ok (.invokevirtual 121, 3) := by decide +kernel
theorem dX3_jumps_129 : decode cX3_jumps 129 = .ok (.if_icmp .ne 7, 3) := by decide +kernel
theorem dX3_jumps_132 : decode cX3_jumps 132 = .ok (.iconst 1, 1) := by decide +kernel
theorem dX3_jumps_133 : decode cX3_jumps 133 = .ok (.goto 4, 3) := by decide +kernel
theorem dX3_jumps_136 : decode cX3_jumps 136 = .ok (.iconst 0, 1) := by decide +kernel
theorem dX3_jumps_137 : decode cX3_jumps 137 = .ok (.ireturn, 1) := by decide +kernel
theorem dX3_jumps_138 : decode cX3_jumps 138 = .ok (.aload_n 0, 1) := by decide +kernel
theorem dX3_jumps_139 : decode cX3_jumps 139 = .ok (.iconst 4, 1) := by decide +kernel
theorem dX3_jumps_140 : decode cX3_jumps 140 = .ok (.invokevirtual 121, 3) := by decide +kernel
theorem dX3_jumps_143 : decode cX3_jumps 143 = .ok (.aload_n 0, 1) := by decide +kernel
theorem dX3_jumps_144 : decode cX3_jumps 144 = .ok (.sipush 256, 3) := by decide +kernel
theorem dX3_jumps_147 : decode cX3_jumps 147 = .ok (.invokevirtual 121, 3) := by decide +kernel
theorem dX3_jumps_150 : decode cX3_jumps 150 = .ok (.if_icmp .eq 7, 3) := by decide +kernel
theorem dX3_jumps_153 : decode cX3_jumps 153 = .ok (.iconst 1, 1) := by decide +kernel
theorem dX3_jumps_154 : decode cX3_jumps 154 = .ok (.goto 4, 3) := by decide +kernel
theorem dX3_jumps_157 : decode cX3_jumps 157 = .ok (.iconst 0, 1) := by decide +kernel
theorem dX3_jumps_158 : decode cX3_jumps 158 = .ok (.ireturn, 1) := by decide +kernel
theorem dX3_jumps_159 : decode cX3_jumps 159 = .ok (.iconst 1, 1) := by decide +kernel
theorem dX3_jumps_160 : decode cX3_jumps 160 = .ok (.ireturn, 1) := by decide +kernel
set_option maxRecDepth 20000 in
theorem ggX3_jump_X3_jumps : GoodIn wsX3_jump wsX3_jumps := goodIn_r _ [6, 7, 8, 9, 5, 10, 1, 23, 24, 25, 26, 27, 28, 29, 30, 31] (by decide +kernel) (by decide +kernel)
set_option maxRecDepth 20000 in
theorem gX3_jump_X3_jumps : GoodIn wsX3_jump (wsV RX3 158 RX3 yX3_jumps wsX3_jumps) := goodIn_app (goodIn_of _ (by decide +kernel)) ggX3_jump_X3_jumps
set_option maxRecDepth 20000 in
theorem ggX3_jump_X3_setRegister : GoodIn wsX3_jump wsX3_setRegister := goodIn_r _ [14, 1, 15, 16, 23, 24, 25, 26, 27, 28, 29, 30, 31] (by decide +kernel) (by decide +kernel)
set_option maxRecDepth 20000 in
theorem gX3_jump_X3_setRegister : GoodIn wsX3_jump (wsV RX3 39 RX3 yX3_setRegister wsX3_setRegister) := goodIn_app (goodIn_of _ (by decide +kernel)) ggX3_jump_X3_setRegister
set_option maxRecDepth 20000 in
theorem ggX3_jump_X3_spend : GoodIn wsX3_jump wsX3_spend := goodIn_r _ [20, 21, 22, 23, 24, 25, 26, 27, 28, 29, 30, 31] (by decide +kernel) (by decide +kernel)
set_option maxRecDepth 20000 in
theorem gX3_jump_X3_spend : GoodIn wsX3_jump (wsV RX3 146 RX3 yX3_spend wsX3_spend) := goodIn_app (goodIn_of _ (by decide +kernel)) ggX3_jump_X3_spend
theorem dX3_jump_0 : decode cX3_jump 0 = .ok (.iload_n 1, 1) := by decide +kernel
theorem dX3_jump_1 : decode cX3_jump 1 = .ok (.sipush 1023, 3) := by decide +kernel
theorem dX3_jump_4 : decode cX3_jump 4 = .ok (.iand, 1) := by decide +kernel
theorem dX3_jump_5 : decode cX3_jump 5 = .ok (.iconst 2, 1) := by decide +kernel
theorem dX3_jump_6 : decode cX3_jump 6 = .ok (.iload_n 1, 1) := by decide +kernel
theorem dX3_jump_7 : decode cX3_jump 7 = .ok (.sipush 512, 3) := by decide +kernel
theorem dX3_jump_10 : decode cX3_jump 10 = .ok (.iand, 1) := by decide +kernel
theorem dX3_jump_11 : decode cX3_jump 11 = .ok (.imul, 1) := by decide +kernel
theorem dX3_jump_12 : decode cX3_jump 12 = .ok (.isub, 1) := by decide +kernel
theorem dX3_jump_13 : decode cX3_jump 13 = .ok (.istore_n 2, 1) := by decide +kernel
theorem dX3_jump_14 : decode cX3_jump 14 = .ok (.aload_n 0, 1) := by decide +kernel
theorem dX3_jump_15 : decode cX3_jump 15 = .ok (.iload_n 1, 1) := by decide +kernel
theorem dX3_jump_16 : decode cX3_jump 16 = .ok (.bipush 10, 2) := by decide +kernel
theorem dX3_jump_18 : decode cX3_jump 18 = .ok (.ishr, 1) := by decide +kernel
theorem dX3_jump_19 : decode cX3_jump 19 = .ok (.bipush 7, 2) := by decide +kernel
theorem dX3_jump_21 : decode cX3_jump 21 = .ok (.iand, 1) := by decide +kernel
theorem dX3_jump_22 : decode cX3_jump 22 = .ok (.invokevirtual 158, 3) := by decide +kernel
theorem dX3_jump_25 : decode cX3_jump 25 = .ok (.ifCond .eq 18, 3) := by decide +kernel
theorem dX3_jump_28 : decode cX3_jump 28 = .ok (.aload_n 0, 1) := by decide +kernel
theorem dX3_jump_29 : decode cX3_jump 29 = .ok (.iconst 0, 1) := by decide +kernel
theorem dX3_jump_30 : decode cX3_jump 30 = .ok (.aload_n 0, 1) := by decide +kernel
theorem dX3_jump_31 : decode cX3_jump 31 = .ok (.getfield 14, 3) := by decide +kernel
theorem dX3_jump_34 : decode cX3_jump 34 = .ok (.iconst 0, 1) := by decide +kernel
theorem dX3_jump_35 : decode cX3_jump 35 = .ok (.iaload, 1) := by decide +kernel
theorem dX3_jump_36 : decode cX3_jump 36 = .ok (.iconst 2, 1) := by decide +kernel
theorem dX3_jump_37 : decode cX3_jump 37 = .ok (.iload_n 2, 1) := by decide +kernel
theorem dX3_jump_38 : decode cX3_jump 38 = .ok (.imul, 1) := by decide +kernel
theorem dX3_jump_39 : decode cX3_jump 39 = .ok (.iadd, 1) := by decide +kernel
theorem dX3_jump_40 : decode cX3_jump 40 = .ok (.invokevirtual 39, 3) := by decide +kernel
theorem dX3_jump_43 : decode cX3_jump 43 = .ok (.aload_n 0, 1) := by decide +kernel
theorem dX3_jump_44 : decode cX3_jump 44 = .ok (.iconst 2, 1) := by decide +kernel
theorem dX3_jump_45 : decode cX3_jump 45 = .ok (.invokevirtual 146, 3) := by decide +kernel
theorem dX3_jump_48 : decode cX3_jump 48 = .ok (.return_, 1) := by decide +kernel
theorem dX3_isAssigned_0 : decode cX3_isAssigned 0 = .ok (.iload_n 0, 1) := by decide +kernel
theorem dX3_isAssigned_1 : decode cX3_isAssigned 1 = .ok (.sipush 8192, 3) := by decide +kernel
theorem dX3_isAssigned_4 : decode cX3_isAssigned 4 = .ok (.if_icmp .lt 5, 3) := by decide +kernel
theorem dX3_isAssigned_7 : decode cX3_isAssigned 7 = .ok (.iconst 1, 1) := by decide +kernel
theorem dX3_isAssigned_8 : decode cX3_isAssigned 8 = .ok (.ireturn, 1) := by decide +kernel
theorem dX3_isAssigned_9 : decode cX3_isAssigned 9 = .ok (.iload_n 0, 1) := by decide +kernel
theorem dX3_isAssigned_10 : decode cX3_isAssigned 10 = .ok (.sipush 4096, 3) := by decide +kernel
theorem dX3_isAssigned_13 : decode cX3_isAssigned 13 = .ok (.if_icmp .lt 10, 3) := by decide +kernel
theorem dX3_isAssigned_16 : decode cX3_isAssigned 16 = .ok (.iload_n 0, 1) := by decide +kernel
theorem dX3_isAssigned_17 : decode cX3_isAssigned 17 = .ok (.sipush 4864, 3) := by decide +kernel
theorem dX3_isAssigned_20 : decode cX3_isAssigned 20 = .ok (.if_icmp .le 5, 3) := by decide +kernel
theorem dX3_isAssigned_23 : decode cX3_isAssigned 23 = .ok (.iconst 0, 1) := by decide +kernel
theorem dX3_isAssigned_24 : decode cX3_isAssigned 24 = .ok (.ireturn, 1) := by decide +kernel
theorem dX3_isAssigned_25 : decode cX3_isAssigned 25 = .ok (.iload_n 0, 1) := by decide +kernel
theorem dX3_isAssigned_26 : decode cX3_isAssigned 26 = .ok (.bipush 7, 2) := by decide +kernel
theorem dX3_isAssigned_28 : decode cX3_isAssigned 28 = .ok (.ishr, 1) := by decide +kernel
theorem dX3_isAssigned_29 : decode cX3_isAssigned 29 = .ok (.bipush 7, 2) := by decide +kernel
theorem dX3_isAssigned_31 : decode cX3_isAssigned 31 = .ok (.iand, 1) := by decide +kernel
theorem dX3_isAssigned_32 : decode cX3_isAssigned 32 = .ok (.istore_n 1, 1) := by decide +kernel
theorem dX3_isAssigned_33 : decode cX3_isAssigned 33 = .ok (.iload_n 0, 1) := by decide +kernel
theorem dX3_isAssigned_34 : decode cX3_isAssigned 34 = .ok (.sipush 4864, 3) := by decide +kernel
theorem dX3_isAssigned_37 : decode cX3_isAssigned 37 = .ok (.if_icmp .eq 24, 3) := by decide +kernel
theorem dX3_isAssigned_40 : decode cX3_isAssigned 40 = .ok (.iload_n 0, 1) := by decide +kernel
theorem dX3_isAssigned_41 : decode cX3_isAssigned 41 = .ok (.bipush 64, 2) := by decide +kernel
theorem dX3_isAssigned_43 : decode cX3_isAssigned 43 = .ok (.iand, 1) := by decide +kernel
theorem dX3_isAssigned_44 : decode cX3_isAssigned 44 = .ok (.ifCond .eq 17, 3) := by decide +kernel
theorem dX3_isAssigned_47 : decode cX3_isAssigned 47 = .ok (.iload_n 1, 1) := by decide +kernel
theorem dX3_isAssigned_48 : decode cX3_isAssigned 48 = .ok (.ifCond .eq 13, 3) := by decide +kernel
theorem dX3_isAssigned_51 : decode cX3_isAssigned 51 = .ok (.iload_n 1, 1) := by decide +kernel
theorem dX3_isAssigned_52 : decode cX3_isAssigned 52 = .ok (.iconst 2, 1) := by decide +kernel
theorem dX3_isAssigned_53 : decode cX3_isAssigned 53 = .ok (.if_icmp .eq 8, 3) := by decide +kernel
theorem dX3_isAssigned_56 : decode cX3_isAssigned 56 = .ok (.iload_n 1, 1) := by decide +kernel
theorem dX3_isAssigned_57 : decode cX3_isAssigned 57 = .ok (.iconst 4, 1) := by decide +kernel
theorem dX3_isAssigned_58 : decode cX3_isAssigned 58 = .ok (.if_icmp .ne 7, 3) := by decide +kernel
theorem dX3_isAssigned_61 : decode cX3_isAssigned 61 = .ok (.iconst 1, 1) := by decide +kernel
theorem dX3_isAssigned_62 : decode cX3_isAssigned 62 = .ok (.goto 4, 3) := by decide +kernel
theorem dX3_isAssigned_65 : decode cX3_isAssigned 65 = .ok (.iconst 0, 1) := by decide +kernel
theorem dX3_isAssigned_66 : decode cX3_isAssigned 66 = .ok (.ireturn, 1) := by decide +kernel
set_option maxRecDepth 20000 in
theorem ggX3_interrupt_X3_push : GoodIn wsX3_interrupt wsX3_push := goodIn_r _ [9, 3, 10, 11, 12, 13, 8, 14, 15, 16, 17, 18, 19, 20, 2, 21, 22, 23, 24, 25, 26, 27, 28, 29, 30, 31, 32, 33, 34, 35, 36, 37, 38, 39, 40, 41, 42, 43, 44, 45, 46, 47, 48, 62, 63, 64, 65, 66, 67, 68, 69, 70] (by decide +kernel) (by decide +kernel)
set_option maxRecDepth 20000 in
theorem gX3_interrupt_X3_push : GoodIn wsX3_interrupt (wsV RX3 155 RX3 yX3_push wsX3_push) := goodIn_app (goodIn_of _ (by decide +kernel)) ggX3_interrupt_X3_push
set_option maxRecDepth 20000 in
theorem ggX3_interrupt_X3_wordAt : GoodIn wsX3_interrupt wsX3_wordAt := goodIn_r _ [52, 37, 25, 16, 26, 27, 8, 28, 53, 54, 55, 62, 63, 64, 65, 66, 67, 68, 69, 70] (by decide +kernel) (by decide +kernel)
set_option maxRecDepth 20000 in
theorem gX3_interrupt_X3_wordAt : GoodIn wsX3_interrupt (wsV RX3 35 RX3 yX3_wordAt wsX3_wordAt) := goodIn_app (goodIn_of _ (by decide +kernel)) ggX3_interrupt_X3_wordAt
set_option maxRecDepth 20000 in
theorem ggX3_interrupt_X3_setRegister : GoodIn wsX3_interrupt wsX3_setRegister := goodIn_r _ [14, 3, 15, 16, 62, 63, 64, 65, 66, 67, 68, 69, 70] (by decide +kernel) (by decide +kernel)
set_option maxRecDepth 20000 in
theorem gX3_interrupt_X3_setRegister : GoodIn wsX3_interrupt (wsV RX3 39 RX3 yX3_setRegister wsX3_setRegister) := goodIn_app (goodIn_of _ (by decide +kernel)) ggX3_interrupt_X3_setRegister
set_option maxRecDepth 20000 in
theorem ggX3_interrupt_X3_spend : GoodIn wsX3_interrupt wsX3_spend := goodIn_r _ [59, 60, 61, 62, 63, 64, 65, 66, 67, 68, 69, 70] (by decide +kernel) (by decide +kernel)
set_option maxRecDepth 20000 in
theorem gX3_interrupt_X3_spend : GoodIn wsX3_interrupt (wsV RX3 146 RX3 yX3_spend wsX3_spend) := goodIn_app (goodIn_of _ (by decide +kernel)) ggX3_interrupt_X3_spend
theorem dX3_interrupt_0 : decode cX3_interrupt 0 = .ok (.bipush 13, 2) := by decide +kernel
theorem dX3_interrupt_2 : decode cX3_interrupt 2 = .ok (.istore_n 1, 1) := by decide +kernel
theorem dX3_interrupt_3 : decode cX3_interrupt 3 = .ok (.aload_n 0, 1) := by decide +kernel
theorem dX3_interrupt_4 : decode cX3_interrupt 4 = .ok (.getfield 28, 3) := by decide +kernel
theorem dX3_interrupt_7 : decode cX3_interrupt 7 = .ok (.iload_n 1, 1) := by decide +kernel
theorem dX3_interrupt_8 : decode cX3_interrupt 8 = .ok (.ishr, 1) := by decide +kernel
theorem dX3_interrupt_9 : decode cX3_interrupt 9 = .ok (.iconst 1, 1) := by decide +kernel
theorem dX3_interrupt_10 : decode cX3_interrupt 10 = .ok (.iand, 1) := by decide +kernel
theorem dX3_interrupt_11 : decode cX3_interrupt 11 = .ok (.ifCond .ne 9, 3) := by decide +kernel
theorem dX3_interrupt_14 : decode cX3_interrupt 14 = .ok (.iinc 1 (-1), 3) := by decide +kernel
theorem dX3_interrupt_17 : decode cX3_interrupt 17 = .ok (.goto (-14), 3) := by decide +kernel
theorem dX3_interrupt_20 : decode cX3_interrupt 20 = .ok (.aload_n 0, 1) := by decide +kernel
theorem dX3_interrupt_21 : decode cX3_interrupt 21 = .ok (.iconst 0, 1) := by decide +kernel
theorem dX3_interrupt_22 : decode cX3_interrupt 22 = .ok (.putfield 51, 3) := by decide +kernel
theorem dX3_interrupt_25 : decode cX3_interrupt 25 = .ok (.aload_n 0, 1) := by decide +kernel
theorem dX3_interrupt_26 : decode cX3_interrupt 26 = .ok (.aload_n 0, 1) := by decide +kernel
theorem dX3_interrupt_27 : decode cX3_interrupt 27 = .ok (.getfield 14, 3) := by decide +kernel
theorem dX3_interrupt_30 : decode cX3_interrupt 30 = .ok (.iconst 0, 1) := by decide +kernel
theorem dX3_interrupt_31 : decode cX3_interrupt 31 = .ok (.iaload, 1) := by decide +kernel
theorem dX3_interrupt_32 : decode cX3_interrupt 32 = .ok (.invokevirtual 155, 3) := by decide +kernel
theorem dX3_interrupt_35 : decode cX3_interrupt 35 = .ok (.aload_n 0, 1) := by decide +kernel
theorem dX3_interrupt_36 : decode cX3_interrupt 36 = .ok (.aload_n 0, 1) := by decide +kernel
theorem dX3_interrupt_37 : decode cX3_interrupt 37 = .ok (.getfield 14, 3) := by decide +kernel
theorem dX3_interrupt_40 : decode cX3_interrupt 40 = .ok (.iconst 2, 1) := by decide +kernel
theorem dX3_interrupt_41 : decode cX3_interrupt 41 = .ok (.iaload, 1) := by decide +kernel
theorem dX3_interrupt_42 : decode cX3_interrupt 42 = .ok (.invokevirtual 155, 3) := by decide +kernel
theorem dX3_interrupt_45 : decode cX3_interrupt 45 = .ok (.aload_n 0, 1) := by decide +kernel
theorem dX3_interrupt_46 : decode cX3_interrupt 46 = .ok (.dup, 1) := by decide +kernel
theorem dX3_interrupt_47 : decode cX3_interrupt 47 = .ok (.getfield 28, 3) := by decide +kernel
theorem dX3_interrupt_50 : decode cX3_interrupt 50 = .ok (.iconst 1, 1) := by decide +kernel
theorem dX3_interrupt_51 : decode cX3_interrupt 51 = .ok (.iload_n 1, 1) := by decide +kernel
theorem dX3_interrupt_52 : decode cX3_interrupt 52 = .ok (.ishl, 1) := by decide +kernel
theorem dX3_interrupt_53 : decode cX3_interrupt 53 = .ok (.ixor, 1) := by decide +kernel
theorem dX3_interrupt_54 : decode cX3_interrupt 54 = .ok (.putfield 28, 3) := by decide +kernel
theorem dX3_interrupt_57 : decode cX3_interrupt 57 = .ok (.aload_n 0, 1) := by decide +kernel
theorem dX3_interrupt_58 : decode cX3_interrupt 58 = .ok (.getfield 14, 3) := by decide +kernel
theorem dX3_interrupt_61 : decode cX3_interrupt 61 = .ok (.iconst 2, 1) := by decide +kernel
theorem dX3_interrupt_62 : decode cX3_interrupt 62 = .ok (.dup2, 1) := by decide +kernel
theorem dX3_interrupt_63 : decode cX3_interrupt 63 = .ok (.iaload, 1) := by decide +kernel
theorem dX3_interrupt_64 : decode cX3_interrupt 64 = .ok (.bipush 64, 2) := by decide +kernel
theorem dX3_interrupt_66 : decode cX3_interrupt 66 = .ok (.iand, 1) := by decide +kernel
theorem dX3_interrupt_67 : decode cX3_interrupt 67 = .ok (.iastore, 1) := by decide +kernel
theorem dX3_interrupt_68 : decode cX3_interrupt 68 = .ok (.aload_n 0, 1) := by decide +kernel
theorem dX3_interrupt_69 : decode cX3_interrupt 69 = .ok (.iconst 0, 1) := by decide +kernel
theorem dX3_interrupt_70 : decode cX3_interrupt 70 = .ok (.aload_n 0, 1) := by decide +kernel
theorem dX3_interrupt_71 : decode cX3_interrupt 71 = .ok (.ldc 161, 2) := by decide +kernel
theorem dX3_interrupt_73 : decode cX3_interrupt 73 = .ok (.iconst 2, 1) := by decide +kernel
theorem dX3_interrupt_74 : decode cX3_interrupt 74 = .ok (.iload_n 1, 1) := by decide +kernel
theorem dX3_interrupt_75 : decode cX3_interrupt 75 = .ok (.imul, 1) := by decide +kernel
theorem dX3_interrupt_76 : decode cX3_interrupt 76 = .ok (.iadd, 1) := by decide +kernel
theorem dX3_interrupt_77 : decode cX3_interrupt 77 = .ok (.invokevirtual 35, 3) := by decide +kernel
theorem dX3_interrupt_80 : decode cX3_interrupt 80 = .ok (.invokevirtual 39, 3) := by decide +kernel
theorem dX3_interrupt_83 : decode cX3_interrupt 83 = .ok (.aload_n 0, 1) := by decide +kernel
theorem dX3_interrupt_84 : decode cX3_interrupt 84 = .ok (.bipush 6, 2) := by decide +kernel
theorem dX3_interrupt_86 : decode cX3_interrupt 86 = .ok (.invokevirtual 146, 3) := by decide +kernel
theorem dX3_interrupt_89 : decode cX3_interrupt 89 = .ok (.return_, 1) := by decide +kernel
set_option maxRecDepth 20000 in
theorem ggX3_step_X3_flag : GoodIn wsX3_step wsX3_flag := goodIn_r _ [8, 2, 166, 167, 168, 169, 170, 171, 172, 173, 174] (by decide +kernel) (by decide +kernel)
set_option maxRecDepth 20000 in
theorem gX3_step_X3_flag : GoodIn wsX3_step (wsV RX3 121 RX3 yX3_flag wsX3_flag) := goodIn_app (goodIn_of _ (by decide +kernel)) ggX3_step_X3_flag
set_option maxRecDepth 20000 in
theorem ggX3_step_X3_interrupt : GoodIn wsX3_step wsX3_interrupt := goodIn_r _ [12, 1, 3, 2, 13, 14, 15, 16, 7, 17, 18, 19, 20, 21, 22, 23, 24, 25, 26, 27, 28, 29, 30, 31, 32, 33, 34, 35, 36, 37, 38, 39, 40, 41, 42, 43, 44, 45, 46, 47, 48, 49, 50, 51, 52, 53, 54, 55, 56, 57, 58, 59, 60, 61, 62, 63, 64, 65, 66, 67, 68, 69, 166, 167, 168, 169, 170, 171, 172, 173, 174] (by decide +kernel) (by decide +kernel)
set_option maxRecDepth 20000 in
theorem gX3_step_X3_interrupt : GoodIn wsX3_step (wsV RX3 162 RX3 yX3_interrupt wsX3_interrupt) := goodIn_app (goodIn_of _ (by decide +kernel)) ggX3_step_X3_interrupt
set_option maxRecDepth 20000 in
theorem ggX3_step_X3_wordAt : GoodIn wsX3_step wsX3_wordAt := goodIn_r _ [60, 45, 33, 24, 34, 35, 7, 36, 61, 62, 63, 166, 167, 168, 169, 170, 171, 172, 173, 174] (by decide +kernel) (by decide +kernel)
set_option maxRecDepth 20000 in
theorem gX3_step_X3_wordAt : GoodIn wsX3_step (wsV RX3 35 RX3 yX3_wordAt wsX3_wordAt) := goodIn_app (goodIn_of _ (by decide +kernel)) ggX3_step_X3_wordAt
set_option maxRecDepth 20000 in
theorem ggX3_step_X3_isAssigned : GoodIn wsX3_step wsX3_isAssigned := goodIn_r _ [72] (by decide +kernel) (by decide +kernel)
set_option maxRecDepth 20000 in
theorem gX3_step_X3_isAssigned : GoodIn wsX3_step (va_wsS RX3 165 yX3_isAssigned wsX3_isAssigned) := goodIn_app (goodIn_of _ (by decide +kernel)) ggX3_step_X3_isAssigned
set_option maxRecDepth 20000 in
theorem ggX3_step_X3_taken : GoodIn wsX3_step wsX3_taken := goodIn_r _ [76, 2, 57, 58, 59, 7, 60, 45, 33, 24, 34, 35, 36, 61, 62, 63, 19, 20, 21, 22, 23, 166, 167, 168, 169, 170, 171, 172, 173, 174] (by decide +kernel) (by decide +kernel)
set_option maxRecDepth 20000 in
theorem gX3_step_X3_taken : GoodIn wsX3_step (wsV RX3 89 RX3 yX3_taken wsX3_taken) := goodIn_app (goodIn_of _ (by decide +kernel)) ggX3_step_X3_taken
set_option maxRecDepth 20000 in
theorem ggX3_step_X3_twoParts : GoodIn wsX3_step wsX3_twoParts := goodIn_r _ [80, 81, 82, 83, 84, 85, 7, 86, 24, 2, 3, 87, 88, 89, 90, 91, 92, 93, 94, 73, 74, 75, 76, 57, 58, 59, 60, 45, 33, 34, 35, 36, 61, 62, 63, 19, 20, 21, 22, 23, 95, 96, 97, 98, 18, 99, 100, 101, 102, 103, 104, 105, 106, 107, 108, 109, 110, 111, 112, 113, 114, 115, 116, 117, 118, 119, 120, 121, 122, 123, 124, 125, 126, 127, 128, 129, 130, 131, 132, 133, 134, 135, 4, 5, 6, 8, 136, 137, 138, 139, 25, 26, 27, 28, 29, 30, 31, 32, 37, 38, 39, 40, 41, 42, 43, 44, 46, 47, 48, 49, 50, 51, 52, 53, 54, 55, 56, 140, 141, 142, 143, 144, 145, 64, 65, 66, 67, 68, 69, 166, 167, 168, 169, 170, 171, 172, 173, 174] (by decide +kernel) (by decide +kernel)
set_option maxRecDepth 20000 in
theorem gX3_step_X3_twoParts : GoodIn wsX3_step (wsV RX3 168 RX3 yX3_twoParts wsX3_twoParts) := goodIn_app (goodIn_of _ (by decide +kernel)) ggX3_step_X3_twoParts
set_option maxRecDepth 20000 in
theorem ggX3_step_X3_jump : GoodIn wsX3_step wsX3_jump := goodIn_r _ [149, 2, 150, 151, 152, 7, 153, 4, 5, 6, 8, 19, 20, 21, 22, 23, 24, 64, 65, 66, 67, 68, 69, 166, 167, 168, 169, 170, 171, 172, 173, 174] (by decide +kernel) (by decide +kernel)
set_option maxRecDepth 20000 in
theorem gX3_step_X3_jump : GoodIn wsX3_step (wsV RX3 171 RX3 yX3_jump wsX3_jump) := goodIn_app (goodIn_of _ (by decide +kernel)) ggX3_step_X3_jump
set_option maxRecDepth 20000 in
theorem ggX3_step_X3_onePart : GoodIn wsX3_step wsX3_onePart := goodIn_r _ [157, 81, 2, 158, 159, 160, 7, 161, 57, 58, 59, 60, 45, 33, 24, 34, 35, 36, 61, 62, 63, 19, 20, 21, 22, 23, 64, 65, 66, 67, 68, 69, 83, 84, 85, 86, 3, 87, 88, 89, 90, 82, 91, 92, 93, 94, 73, 74, 75, 76, 95, 96, 97, 98, 18, 99, 100, 101, 102, 103, 104, 105, 106, 107, 108, 109, 110, 140, 141, 142, 162, 163, 164, 165, 25, 26, 27, 28, 29, 30, 31, 32, 37, 38, 39, 40, 41, 42, 43, 44, 46, 47, 48, 49, 50, 51, 52, 53, 54, 55, 56, 4, 5, 6, 8, 123, 124, 125, 126, 127, 128, 129, 130, 131, 132, 133, 134, 135, 143, 144, 145, 14, 15, 16, 17, 166, 167, 168, 169, 170, 171, 172, 173, 174] (by decide +kernel) (by decide +kernel)
set_option maxRecDepth 20000 in
theorem gX3_step_X3_onePart : GoodIn wsX3_step (wsV RX3 174 RX3 yX3_onePart wsX3_onePart) := goodIn_app (goodIn_of _ (by decide +kernel)) ggX3_step_X3_onePart
theorem dX3_step_0 : decode cX3_step 0 = .ok (.aload_n 0, 1) := by decide +kernel
theorem dX3_step_1 : decode cX3_step 1 = .ok (.bipush 8, 2) := by decide +kernel
theorem dX3_step_3 : decode cX3_step 3 = .ok (.invokevirtual 121, 3) := by decide +kernel
theorem dX3_step_6 : decode cX3_step 6 = .ok (.iconst 1, 1) := by decide +kernel
theorem dX3_step_7 : decode cX3_step 7 = .ok (.if_icmp .ne 16, 3) := by decide +kernel
theorem dX3_step_10 : decode cX3_step 10 = .ok (.aload_n 0, 1) := by decide +kernel
theorem dX3_step_11 : decode cX3_step 11 = .ok (.getfield 28, 3) := by decide +kernel
theorem dX3_step_14 : decode cX3_step 14 = .ok (.ifCond .eq 9, 3) := by decide +kernel
theorem dX3_step_17 : decode cX3_step 17 = .ok (.aload_n 0, 1) := by decide +kernel
theorem dX3_step_18 : decode cX3_step 18 = .ok (.invokevirtual 162, 3) := by decide +kernel
theorem dX3_step_21 : decode cX3_step 21 = .ok (.iconst 0, 1) := by decide +kernel
theorem dX3_step_22 : decode cX3_step 22 = .ok (.ireturn, 1) := by decide +kernel
theorem dX3_step_23 : decode cX3_step 23 = .ok (.aload_n 0, 1) := by decide +kernel
theorem dX3_step_24 : decode cX3_step 24 = .ok (.bipush 16, 2) := by decide +kernel
theorem dX3_step_26 : decode cX3_step 26 = .ok (.invokevirtual 121, 3) := by decide +kernel
theorem dX3_step_29 : decode cX3_step 29 = .ok (.iconst 1, 1) := by decide +kernel
theorem dX3_step_30 : decode cX3_step 30 = .ok (.if_icmp .ne 5, 3) := by decide +kernel
theorem dX3_step_33 : decode cX3_step 33 = .ok (.iconst 1, 1) := by decide +kernel
theorem dX3_step_34 : decode cX3_step 34 = .ok (.ireturn, 1) := by decide +kernel
theorem dX3_step_35 : decode cX3_step 35 = .ok (.aload_n 0, 1) := by decide +kernel
theorem dX3_step_36 : decode cX3_step 36 = .ok (.aload_n 0, 1) := by decide +kernel
theorem dX3_step_37 : decode cX3_step 37 = .ok (.getfield 14, 3) := by decide +kernel
theorem dX3_step_40 : decode cX3_step 40 = .ok (.iconst 0, 1) := by decide +kernel
theorem dX3_step_41 : decode cX3_step 41 = .ok (.iaload, 1) := by decide +kernel
theorem dX3_step_42 : decode cX3_step 42 = .ok (.invokevirtual 35, 3) := by decide +kernel
theorem dX3_step_45 : decode cX3_step 45 = .ok (.istore_n 1, 1) := by decide +kernel
theorem dX3_step_46 : decode cX3_step 46 = .ok (.iload_n 1, 1) := by decide +kernel
theorem dX3_step_47 : decode cX3_step 47 = .ok (.invokestatic 165, 3) := by decide +kernel
theorem dX3_step_50 : decode cX3_step 50 = .ok (.ifCond .ne 5, 3) := by decide +kernel
theorem dX3_step_53 : decode cX3_step 53 = .ok (.iconst 2, 1) := by decide +kernel
theorem dX3_step_54 : decode cX3_step 54 = .ok (.ireturn, 1) := by decide +kernel
theorem dX3_step_55 : decode cX3_step 55 = .ok (.aload_n 0, 1) := by decide +kernel
theorem dX3_step_56 : decode cX3_step 56 = .ok (.invokevirtual 89, 3) := by decide +kernel
theorem dX3_step_59 : decode cX3_step 59 = .ok (.pop, 1) := by decide +kernel
theorem dX3_step_60 : decode cX3_step 60 = .ok (.aload_n 0, 1) := by decide +kernel
theorem dX3_step_61 : decode cX3_step 61 = .ok (.iload_n 1, 1) := by decide +kernel
theorem dX3_step_62 : decode cX3_step 62 = .ok (.sipush 16384, 3) := by decide +kernel
theorem dX3_step_65 : decode cX3_step 65 = .ok (.if_icmp .ge 10, 3) := by decide +kernel
theorem dX3_step_68 : decode cX3_step 68 = .ok (.iload_n 1, 1) := by decide +kernel
theorem dX3_step_69 : decode cX3_step 69 = .ok (.sipush 8192, 3) := by decide +kernel
theorem dX3_step_72 : decode cX3_step 72 = .ok (.if_icmp .ge 14, 3) := by decide +kernel
theorem dX3_step_75 : decode cX3_step 75 = .ok (.iload_n 1, 1) := by decide +kernel
theorem dX3_step_76 : decode cX3_step 76 = .ok (.bipush 64, 2) := by decide +kernel
theorem dX3_step_78 : decode cX3_step 78 = .ok (.iand, 1) := by decide +kernel
theorem dX3_step_79 : decode cX3_step 79 = .ok (.ifCond .eq 7, 3) := by decide +kernel
theorem dX3_step_82 : decode cX3_step 82 = .ok (.iconst 1, 1) := by decide +kernel
theorem dX3_step_83 : decode cX3_step 83 = .ok (.goto 4, 3) := by decide +kernel
theorem dX3_step_86 : decode cX3_step 86 = .ok (.iconst 0, 1) := by decide +kernel
theorem dX3_step_87 : decode cX3_step 87 = .ok (.putfield 51, 3) := by decide +kernel
theorem dX3_step_90 : decode cX3_step 90 = .ok (.iload_n 1, 1) := by decide +kernel
theorem dX3_step_91 : decode cX3_step 91 = .ok (.sipush 16384, 3) := by decide +kernel
theorem dX3_step_94 : decode cX3_step 94 = .ok (.if_icmp .lt 11, 3) := by decide +kernel
theorem dX3_step_97 : decode cX3_step 97 = .ok (.aload_n 0, 1) := by decide +kernel
theorem dX3_step_98 : decode cX3_step 98 = .ok (.iload_n 1, 1) := by decide +kernel
theorem dX3_step_99 : decode cX3_step 99 = .ok (.invokevirtual 168, 3) := by decide +kernel
theorem dX3_step_102 : decode cX3_step 102 = .ok (.goto 23, 3) := by decide +kernel
theorem dX3_step_105 : decode cX3_step 105 = .ok (.iload_n 1, 1) := by decide +kernel
theorem dX3_step_106 : decode cX3_step 106 = .ok (.sipush 8192, 3) := by decide +kernel
theorem dX3_step_109 : decode cX3_step 109 = .ok (.if_icmp .lt 11, 3) := by decide +kernel
theorem dX3_step_112 : decode cX3_step 112 = .ok (.aload_n 0, 1) := by decide +kernel
theorem dX3_step_113 : decode cX3_step 113 = .ok (.iload_n 1, 1) := by decide +kernel
theorem dX3_step_114 : decode cX3_step 114 = .ok (.invokevirtual 171, 3) := by decide +kernel
theorem dX3_step_117 : decode cX3_step 117 = .ok (.goto 8, 3) := by decide +kernel
theorem dX3_step_120 : decode cX3_step 120 = .ok (.aload_n 0, 1) := by decide +kernel
theorem dX3_step_121 : decode cX3_step 121 = .ok (.iload_n 1, 1) := by decide +kernel
theorem dX3_step_122 : decode cX3_step 122 = .ok (.invokevirtual 174, 3) := by decide +kernel
theorem dX3_step_125 : decode cX3_step 125 = .ok (.iconst 0, 1) := by decide +kernel
theorem dX3_step_126 : decode cX3_step 126 = .ok (.ireturn, 1) := by decide +kernel
set_option maxRecDepth 20000 in
theorem ggX3_run_X3_step : GoodIn wsX3_run wsX3_step := goodIn_r _ [5, 6, 7, 8, 9, 10, 11, 4, 12, 13, 14, 15, 16, 17, 18, 19, 20, 21, 22, 23, 24, 25, 26, 27, 28, 29, 30, 31, 32, 33, 34, 35, 36, 37, 38, 39, 40, 41, 42, 43, 44, 45, 46, 47, 48, 49, 50, 51, 52, 53, 54, 55, 56, 57, 58, 59, 60, 61, 62, 63, 64, 65, 66, 67, 68, 69, 70, 71, 72, 73, 74, 75, 76, 77, 78, 79, 80, 81, 82, 83, 84, 85, 86, 87, 88, 89, 90, 91, 92, 93, 94, 95, 96, 97, 98, 99, 100, 101, 102, 103, 104, 105, 106, 107, 108, 109, 110, 111, 112, 113, 114, 115, 116, 117, 118, 119, 120, 121, 122, 123, 124, 125, 126, 127, 128, 129, 130, 131, 132, 133, 134, 135, 136, 137, 138, 139, 140, 141, 142, 143, 144, 145, 146, 147, 148, 149, 150, 151, 152, 153, 154, 155, 156, 157, 158, 159, 160, 161, 162, 163, 164, 165, 166, 167, 168, 169, 170, 171, 172, 173, 174, 175, 176, 177, 178] (by decide +kernel) (by decide +kernel)
set_option maxRecDepth 20000 in
theorem gX3_run_X3_step : GoodIn wsX3_run (wsV RX3 177 RX3 yX3_step wsX3_step) := goodIn_app (goodIn_of _ (by decide +kernel)) ggX3_run_X3_step
theorem dX3_run_0 : decode cX3_run 0 = .ok (.iload_n 1, 1) := by decide +kernel
theorem dX3_run_1 : decode cX3_run 1 = .ok (.ifCond .lt 10, 3) := by decide +kernel
theorem dX3_run_4 : decode cX3_run 4 = .ok (.iload_n 1, 1) := by decide +kernel
theorem dX3_run_5 : decode cX3_run 5 = .ok (.sipush 2000, 3) := by decide +kernel
theorem dX3_run_8 : decode cX3_run 8 = .ok (.if_icmp .le 5, 3) := by decide +kernel
theorem dX3_run_11 : decode cX3_run 11 = .ok (.iconst (-1), 1) := by decide +kernel
theorem dX3_run_12 : decode cX3_run 12 = .ok (.ireturn, 1) := by decide +kernel
theorem dX3_run_13 : decode cX3_run 13 = .ok (.iconst 0, 1) := by decide +kernel
theorem dX3_run_14 : decode cX3_run 14 = .ok (.istore_n 2, 1) := by decide +kernel
theorem dX3_run_15 : decode cX3_run 15 = .ok (.iconst 0, 1) := by decide +kernel
theorem dX3_run_16 : decode cX3_run 16 = .ok (.istore_n 3, 1) := by decide +kernel
theorem dX3_run_17 : decode cX3_run 17 = .ok (.iload_n 3, 1) := by decide +kernel
theorem dX3_run_18 : decode cX3_run 18 = .ok (.iload_n 1, 1) := by decide +kernel
theorem dX3_run_19 : decode cX3_run 19 = .ok (.if_icmp .ge 19, 3) := by decide +kernel
theorem dX3_run_22 : decode cX3_run 22 = .ok (.iload_n 2, 1) := by decide +kernel
theorem dX3_run_23 : decode cX3_run 23 = .ok (.iconst 2, 1) := by decide +kernel
theorem dX3_run_24 : decode cX3_run 24 = .ok (.if_icmp .eq 14, 3) := by decide +kernel
theorem dX3_run_27 : decode cX3_run 27 = .ok (.aload_n 0, 1) := by decide +kernel
theorem dX3_run_28 : decode cX3_run 28 = .ok (.invokevirtual 177, 3) := by decide +kernel
theorem dX3_run_31 : decode cX3_run 31 = .ok (.istore_n 2, 1) := by decide +kernel
theorem dX3_run_32 : decode cX3_run 32 = .ok (.iinc 3 1, 3) := by decide +kernel
theorem dX3_run_35 : decode cX3_run 35 = .ok (.goto (-18), 3) := by decide +kernel
theorem dX3_run_38 : decode cX3_run 38 = .ok (.iload_n 2, 1) := by decide +kernel
theorem dX3_run_39 : decode cX3_run 39 = .ok (.ireturn, 1) := by decide +kernel
theorem dX3_isAddress_0 : decode cX3_isAddress 0 = .ok (.iload_n 0, 1) := by decide +kernel
theorem dX3_isAddress_1 : decode cX3_isAddress 1 = .ok (.ifCond .lt 13, 3) := by decide +kernel
theorem dX3_isAddress_4 : decode cX3_isAddress 4 = .ok (.iload_n 0, 1) := by decide +kernel
theorem dX3_isAddress_5 : decode cX3_isAddress 5 = .ok (.ldc 73, 2) := by decide +kernel
theorem dX3_isAddress_7 : decode cX3_isAddress 7 = .ok (.if_icmp .ge 7, 3) := by decide +kernel
theorem dX3_isAddress_10 : decode cX3_isAddress 10 = .ok (.iconst 1, 1) := by decide +kernel
theorem dX3_isAddress_11 : decode cX3_isAddress 11 = .ok (.goto 4, 3) := by decide +kernel
theorem dX3_isAddress_14 : decode cX3_isAddress 14 = .ok (.iconst 0, 1) := by decide +kernel
theorem dX3_isAddress_15 : decode cX3_isAddress 15 = .ok (.ireturn, 1) := by decide +kernel
set_option maxRecDepth 20000 in
theorem ggX3_poke_X3_isAddress : GoodIn wsX3_poke wsX3_isAddress := goodIn_r _ [7, 8] (by decide +kernel) (by decide +kernel)
set_option maxRecDepth 20000 in
theorem gX3_poke_X3_isAddress : GoodIn wsX3_poke (va_wsS RX3 180 yX3_isAddress wsX3_isAddress) := goodIn_app (goodIn_of _ (by decide +kernel)) ggX3_poke_X3_isAddress
set_option maxRecDepth 20000 in
theorem ggX3_poke_X3_isMultiplier : GoodIn wsX3_poke wsX3_isMultiplier := goodIn_r _ [11] (by decide +kernel) (by decide +kernel)
set_option maxRecDepth 20000 in
theorem gX3_poke_X3_isMultiplier : GoodIn wsX3_poke (va_wsS RX3 43 yX3_isMultiplier wsX3_isMultiplier) := goodIn_app (goodIn_of _ (by decide +kernel)) ggX3_poke_X3_isMultiplier
set_option maxRecDepth 20000 in
theorem ggX3_poke_X3_which : GoodIn wsX3_poke wsX3_which := goodIn_r _ [14] (by decide +kernel) (by decide +kernel)
set_option maxRecDepth 20000 in
theorem gX3_poke_X3_which : GoodIn wsX3_poke (va_wsS RX3 47 yX3_which wsX3_which) := goodIn_app (goodIn_of _ (by decide +kernel)) ggX3_poke_X3_which
set_option maxRecDepth 20000 in
theorem ggX3_poke_X3_withByte : GoodIn wsX3_poke wsX3_withByte := goodIn_r _ [17, 18] (by decide +kernel) (by decide +kernel)
set_option maxRecDepth 20000 in
theorem gX3_poke_X3_withByte : GoodIn wsX3_poke (va_wsS RX3 62 yX3_withByte wsX3_withByte) := goodIn_app (goodIn_of _ (by decide +kernel)) ggX3_poke_X3_withByte
theorem dX3_poke_0 : decode cX3_poke 0 = .ok (.iload_n 1, 1) := by decide +kernel
theorem dX3_poke_1 : decode cX3_poke 1 = .ok (.invokestatic 180, 3) := by decide +kernel
theorem dX3_poke_4 : decode cX3_poke 4 = .ok (.ifCond .eq 14, 3) := by decide +kernel
theorem dX3_poke_7 : decode cX3_poke 7 = .ok (.iload_n 2, 1) := by decide +kernel
theorem dX3_poke_8 : decode cX3_poke 8 = .ok (.ifCond .lt 10, 3) := by decide +kernel
theorem dX3_poke_11 : decode cX3_poke 11 = .ok (.iload_n 2, 1) := by decide +kernel
theorem dX3_poke_12 : decode cX3_poke 12 = .ok (.sipush 255, 3) := by decide +kernel
theorem dX3_poke_15 : decode cX3_poke 15 = .ok (.if_icmp .le 5, 3) := by decide +kernel
theorem dX3_poke_18 : decode cX3_poke 18 = .ok (.iconst 0, 1) := by decide +kernel
theorem dX3_poke_19 : decode cX3_poke 19 = .ok (.ireturn, 1) := by decide +kernel
theorem dX3_poke_20 : decode cX3_poke 20 = .ok (.iload_n 1, 1) := by decide +kernel
theorem dX3_poke_21 : decode cX3_poke 21 = .ok (.invokestatic 43, 3) := by decide +kernel
theorem dX3_poke_24 : decode cX3_poke 24 = .ok (.ifCond .eq 29, 3) := by decide +kernel
theorem dX3_poke_27 : decode cX3_poke 27 = .ok (.aload_n 0, 1) := by decide +kernel
theorem dX3_poke_28 : decode cX3_poke 28 = .ok (.getfield 18, 3) := by decide +kernel
theorem dX3_poke_31 : decode cX3_poke 31 = .ok (.iload_n 1, 1) := by decide +kernel
theorem dX3_poke_32 : decode cX3_poke 32 = .ok (.invokestatic 47, 3) := by decide +kernel
theorem dX3_poke_35 : decode cX3_poke 35 = .ok (.aload_n 0, 1) := by decide +kernel
theorem dX3_poke_36 : decode cX3_poke 36 = .ok (.getfield 18, 3) := by decide +kernel
theorem dX3_poke_39 : decode cX3_poke 39 = .ok (.iload_n 1, 1) := by decide +kernel
theorem dX3_poke_40 : decode cX3_poke 40 = .ok (.invokestatic 47, 3) := by decide +kernel
theorem dX3_poke_43 : decode cX3_poke 43 = .ok (.iaload, 1) := by decide +kernel
theorem dX3_poke_44 : decode cX3_poke 44 = .ok (.iload_n 1, 1) := by decide +kernel
theorem dX3_poke_45 : decode cX3_poke 45 = .ok (.iload_n 2, 1) := by decide +kernel
theorem dX3_poke_46 : decode cX3_poke 46 = .ok (.invokestatic 62, 3) := by decide +kernel
theorem dX3_poke_49 : decode cX3_poke 49 = .ok (.iastore, 1) := by decide +kernel
theorem dX3_poke_50 : decode cX3_poke 50 = .ok (.goto 28, 3) := by decide +kernel
theorem dX3_poke_53 : decode cX3_poke 53 = .ok (.aload_n 0, 1) := by decide +kernel
theorem dX3_poke_54 : decode cX3_poke 54 = .ok (.getfield 8, 3) := by decide +kernel
theorem dX3_poke_57 : decode cX3_poke 57 = .ok (.iload_n 1, 1) := by decide +kernel
theorem dX3_poke_58 : decode cX3_poke 58 = .ok (.iconst 1, 1) := by decide +kernel
theorem dX3_poke_59 : decode cX3_poke 59 = .ok (.ishr, 1) := by decide +kernel
theorem dX3_poke_60 : decode cX3_poke 60 = .ok (.aload_n 0, 1) := by decide +kernel
theorem dX3_poke_61 : decode cX3_poke 61 = .ok (.getfield 8, 3) := by decide +kernel
theorem dX3_poke_64 : decode cX3_poke 64 = .ok (.iload_n 1, 1) := by decide +kernel
theorem dX3_poke_65 : decode cX3_poke 65 = .ok (.iconst 1, 1) := by decide +kernel
theorem dX3_poke_66 : decode cX3_poke 66 = .ok (.ishr, 1) := by decide +kernel
theorem dX3_poke_67 : decode cX3_poke 67 = .ok (.saload, 1) := by decide +kernel
theorem dX3_poke_68 : decode cX3_poke 68 = .ok (.ldc 50, 2) := by decide +kernel
theorem dX3_poke_70 : decode cX3_poke 70 = .ok (.iand, 1) := by decide +kernel
theorem dX3_poke_71 : decode cX3_poke 71 = .ok (.iload_n 1, 1) := by decide +kernel
theorem dX3_poke_72 : decode cX3_poke 72 = .ok (.iload_n 2, 1) := by decide +kernel
theorem dX3_poke_73 : decode cX3_poke 73 = .ok (.invokestatic 62, 3) := by decide +kernel
theorem dX3_poke_76 : decode cX3_poke 76 = .ok (.i2s, 1) := by decide +kernel
theorem dX3_poke_77 : decode cX3_poke 77 = .ok (.sastore, 1) := by decide +kernel
theorem dX3_poke_78 : decode cX3_poke 78 = .ok (.iconst 1, 1) := by decide +kernel
theorem dX3_poke_79 : decode cX3_poke 79 = .ok (.ireturn, 1) := by decide +kernel
set_option maxRecDepth 20000 in
theorem ggX3_peek_X3_isAddress : GoodIn wsX3_peek wsX3_isAddress := goodIn_r _ [4, 5] (by decide +kernel) (by decide +kernel)
set_option maxRecDepth 20000 in
theorem gX3_peek_X3_isAddress : GoodIn wsX3_peek (va_wsS RX3 180 yX3_isAddress wsX3_isAddress) := goodIn_app (goodIn_of _ (by decide +kernel)) ggX3_peek_X3_isAddress
set_option maxRecDepth 20000 in
theorem ggX3_peek_X3_byteAt : GoodIn wsX3_peek wsX3_byteAt := goodIn_r _ [9, 10, 11, 12, 3, 13, 14, 15, 16, 17, 18, 19, 20, 21, 22, 23, 24, 25, 26, 27, 28, 29, 30, 31] (by decide +kernel) (by decide +kernel)
set_option maxRecDepth 20000 in
theorem gX3_peek_X3_byteAt : GoodIn wsX3_peek (wsV RX3 55 RX3 yX3_byteAt wsX3_byteAt) := goodIn_app (goodIn_of _ (by decide +kernel)) ggX3_peek_X3_byteAt
theorem dX3_peek_0 : decode cX3_peek 0 = .ok (.iload_n 1, 1) := by decide +kernel
theorem dX3_peek_1 : decode cX3_peek 1 = .ok (.invokestatic 180, 3) := by decide +kernel
theorem dX3_peek_4 : decode cX3_peek 4 = .ok (.ifCond .eq 11, 3) := by decide +kernel
theorem dX3_peek_7 : decode cX3_peek 7 = .ok (.aload_n 0, 1) := by decide +kernel
theorem dX3_peek_8 : decode cX3_peek 8 = .ok (.iload_n 1, 1) := by decide +kernel
theorem dX3_peek_9 : decode cX3_peek 9 = .ok (.invokevirtual 55, 3) := by decide +kernel
theorem dX3_peek_12 : decode cX3_peek 12 = .ok (.goto 4, 3) := by decide +kernel
theorem dX3_peek_15 : decode cX3_peek 15 = .ok (.iconst (-1), 1) := by decide +kernel
theorem dX3_peek_16 : decode cX3_peek 16 = .ok (.ireturn, 1) := by decide +kernel
theorem dX3_reg_0 : decode cX3_reg 0 = .ok (.iload_n 1, 1) := by decide +kernel
theorem dX3_reg_1 : decode cX3_reg 1 = .ok (.ifCond .lt 18, 3) := by decide +kernel
theorem dX3_reg_4 : decode cX3_reg 4 = .ok (.iload_n 1, 1) := by decide +kernel
theorem dX3_reg_5 : decode cX3_reg 5 = .ok (.bipush 16, 2) := by decide +kernel
theorem dX3_reg_7 : decode cX3_reg 7 = .ok (.if_icmp .ge 12, 3) := by decide +kernel
theorem dX3_reg_10 : decode cX3_reg 10 = .ok (.aload_n 0, 1) := by decide +kernel
theorem dX3_reg_11 : decode cX3_reg 11 = .ok (.getfield 14, 3) := by decide +kernel
theorem dX3_reg_14 : decode cX3_reg 14 = .ok (.iload_n 1, 1) := by decide +kernel
theorem dX3_reg_15 : decode cX3_reg 15 = .ok (.iaload, 1) := by decide +kernel
theorem dX3_reg_16 : decode cX3_reg 16 = .ok (.goto 4, 3) := by decide +kernel
theorem dX3_reg_19 : decode cX3_reg 19 = .ok (.iconst (-1), 1) := by decide +kernel
theorem dX3_reg_20 : decode cX3_reg 20 = .ok (.ireturn, 1) := by decide +kernel
theorem dX3_raise_0 : decode cX3_raise 0 = .ok (.iload_n 1, 1) := by decide +kernel
theorem dX3_raise_1 : decode cX3_raise 1 = .ok (.ifCond .lt 9, 3) := by decide +kernel
theorem dX3_raise_4 : decode cX3_raise 4 = .ok (.iload_n 1, 1) := by decide +kernel
theorem dX3_raise_5 : decode cX3_raise 5 = .ok (.bipush 13, 2) := by decide +kernel
theorem dX3_raise_7 : decode cX3_raise 7 = .ok (.if_icmp .le 5, 3) := by decide +kernel
theorem dX3_raise_10 : decode cX3_raise 10 = .ok (.iconst 0, 1) := by decide +kernel
theorem dX3_raise_11 : decode cX3_raise 11 = .ok (.ireturn, 1) := by decide +kernel
theorem dX3_raise_12 : decode cX3_raise 12 = .ok (.aload_n 0, 1) := by decide +kernel
theorem dX3_raise_13 : decode cX3_raise 13 = .ok (.dup, 1) := by decide +kernel
theorem dX3_raise_14 : decode cX3_raise 14 = .ok (.getfield 28, 3) := by decide +kernel
theorem dX3_raise_17 : decode cX3_raise 17 = .ok (.iconst 1, 1) := by decide +kernel
theorem dX3_raise_18 : decode cX3_raise 18 = .ok (.iload_n 1, 1) := by decide +kernel
theorem dX3_raise_19 : decode cX3_raise 19 = .ok (.ishl, 1) := by decide +kernel
theorem dX3_raise_20 : decode cX3_raise 20 = .ok (.ior, 1) := by decide +kernel
theorem dX3_raise_21 : decode cX3_raise 21 = .ok (.putfield 28, 3) := by decide +kernel
theorem dX3_raise_24 : decode cX3_raise 24 = .ok (.iconst 1, 1) := by decide +kernel
theorem dX3_raise_25 : decode cX3_raise 25 = .ok (.ireturn, 1) := by decide +kernel
theorem dX3_cyclesOf_0 : decode cX3_cyclesOf 0 = .ok (.aload_n 0, 1) := by decide +kernel
theorem dX3_cyclesOf_1 : decode cX3_cyclesOf 1 = .ok (.getfield 31, 3) := by decide +kernel
theorem dX3_cyclesOf_4 : decode cX3_cyclesOf 4 = .ok (.ireturn, 1) := by decide +kernel
theorem dX3_pending_0 : decode cX3_pending 0 = .ok (.aload_n 0, 1) := by decide +kernel
theorem dX3_pending_1 : decode cX3_pending 1 = .ok (.getfield 28, 3) := by decide +kernel
theorem dX3_pending_4 : decode cX3_pending 4 = .ok (.ireturn, 1) := by decide +kernel
theorem dX3_mode_0 : decode cX3_mode 0 = .ok (.aload_n 0, 1) := by decide +kernel
theorem dX3_mode_1 : decode cX3_mode 1 = .ok (.getfield 24, 3) := by decide +kernel
theorem dX3_mode_4 : decode cX3_mode 4 = .ok (.ireturn, 1) := by decide +kernel
set_option maxRecDepth 20000 in
theorem ggL_law_X2_init : GoodIn wsL_law wsX2_init := goodIn_r _ [8, 9, 10, 11, 12, 13, 14, 15, 16, 17, 18, 19, 20, 21, 22, 23, 24, 25, 26, 27, 28, 29, 30, 31, 32, 2, 33, 34, 35, 36, 37, 38, 39, 40, 41, 42, 43, 44, 45, 46, 47, 48, 49, 50, 51, 52, 53, 54, 55, 56, 57, 58, 59, 60, 61, 62, 63, 64, 65, 66, 67, 491, 492, 478, 479, 480, 481, 493, 494, 495, 496, 497, 498] (by decide +kernel) (by decide +kernel)
set_option maxRecDepth 20000 in
theorem gL_law_X2_init : GoodIn wsL_law (wsX2_init) := ggL_law_X2_init
set_option maxRecDepth 20000 in
theorem ggL_law_X3_init : GoodIn wsL_law wsX3_init := goodIn_r _ [70, 71, 10, 11, 72, 73, 74, 16, 75, 76, 77, 78, 79, 5, 80, 81, 82, 83, 84, 85, 86, 87, 88, 89, 90, 91, 92, 93, 94, 95, 96, 97, 98, 99, 482, 483, 484, 485, 486, 487, 488, 489, 490] (by decide +kernel) (by decide +kernel)
set_option maxRecDepth 20000 in
theorem gL_law_X3_init : GoodIn wsL_law (wsX3_init) := ggL_law_X3_init
set_option maxRecDepth 20000 in
theorem ggL_law_X2_init_ : GoodIn wsL_law wsX2_init_ := goodIn_r _ [33, 17, 34, 35, 15, 36, 37, 25, 38, 39, 40, 41, 42, 43, 44, 45, 46, 14, 47, 48, 26, 22, 49, 50, 51, 52, 53, 54, 55, 56, 57, 58, 59, 60, 61, 62, 63, 64, 65, 2, 66, 67, 478, 479, 480, 481, 491, 492, 493, 494, 495, 496, 497, 498] (by decide +kernel) (by decide +kernel)
set_option maxRecDepth 20000 in
theorem gL_law_X2_init_ : GoodIn wsL_law (wsV RL 13 RX2 yX2_init_ wsX2_init_) := goodIn_app (goodIn_of _ (by decide +kernel)) ggL_law_X2_init_
set_option maxRecDepth 20000 in
theorem ggL_law_X3_init_ : GoodIn wsL_law wsX3_init_ := goodIn_r _ [80, 75, 76, 81, 82, 83, 84, 85, 86, 87, 5, 88, 74, 89, 90, 91, 92, 93, 94, 95, 96, 97, 98, 99, 482, 483, 484, 485, 486, 487, 488, 489, 490] (by decide +kernel) (by decide +kernel)
set_option maxRecDepth 20000 in
theorem gL_law_X3_init_ : GoodIn wsL_law (wsV RL 16 RX3 yX3_init_ wsX3_init_) := goodIn_app (goodIn_of _ (by decide +kernel)) ggL_law_X3_init_
set_option maxRecDepth 20000 in
theorem ggL_law_X2_poke : GoodIn wsL_law wsX2_poke := goodIn_r _ [105, 106, 15, 107, 14, 108, 109, 110, 26, 111, 46, 47, 48, 22, 49, 50, 51, 52, 53, 54, 55, 56, 57, 25, 58, 59, 41, 42, 43, 44, 40, 60, 61, 62, 112, 113, 114, 115, 116, 117, 118, 119, 120, 478, 479, 480, 481, 491, 492, 493, 494, 495, 496, 497, 498] (by decide +kernel) (by decide +kernel)
set_option maxRecDepth 20000 in
theorem gL_law_X2_poke : GoodIn wsL_law (wsV RL 17 RX2 yX2_poke wsX2_poke) := goodIn_app (goodIn_of _ (by decide +kernel)) ggL_law_X2_poke
set_option maxRecDepth 20000 in
theorem ggL_law_X3_poke : GoodIn wsL_law wsX3_poke := goodIn_r _ [124, 76, 74, 89, 125, 126, 5, 127, 128, 90, 91, 92, 93, 94, 95, 129, 130, 131, 132, 482, 483, 484, 485, 486, 487, 488, 489, 490] (by decide +kernel) (by decide +kernel)
set_option maxRecDepth 20000 in
theorem gL_law_X3_poke : GoodIn wsL_law (wsV RL 21 RX3 yX3_poke wsX3_poke) := goodIn_app (goodIn_of _ (by decide +kernel)) ggL_law_X3_poke
set_option maxRecDepth 20000 in
theorem ggL_law_X2_peek : GoodIn wsL_law wsX2_peek := goodIn_r _ [136, 106, 15, 137, 14, 138, 139, 111, 46, 47, 48, 26, 22, 49, 50, 51, 52, 53, 54, 55, 56, 57, 25, 58, 59, 41, 42, 43, 44, 40, 60, 61, 62, 478, 479, 480, 481, 491, 492, 493, 494, 495, 496, 497, 498] (by decide +kernel) (by decide +kernel)
set_option maxRecDepth 20000 in
theorem gL_law_X2_peek : GoodIn wsL_law (wsV RL 22 RX2 yX2_peek wsX2_peek) := goodIn_app (goodIn_of _ (by decide +kernel)) ggL_law_X2_peek
set_option maxRecDepth 20000 in
theorem ggL_law_X3_peek : GoodIn wsL_law wsX3_peek := goodIn_r _ [143, 125, 126, 5, 127, 128, 144, 145, 146, 147, 85, 86, 87, 88, 76, 74, 89, 90, 91, 92, 93, 94, 95, 482, 483, 484, 485, 486, 487, 488, 489, 490] (by decide +kernel) (by decide +kernel)
set_option maxRecDepth 20000 in
theorem gL_law_X3_peek : GoodIn wsL_law (wsV RL 26 RX3 yX3_peek wsX3_peek) := goodIn_app (goodIn_of _ (by decide +kernel)) ggL_law_X3_peek
set_option maxRecDepth 20000 in
theorem ggL_law_X2_step : GoodIn wsL_law wsX2_step := goodIn_r _ [151, 17, 34, 15, 152, 153, 154, 2, 155, 156, 157, 158, 159, 160, 161, 162, 163, 164, 165, 166, 167, 168, 63, 64, 65, 66, 36, 67, 169, 14, 170, 171, 26, 50, 51, 52, 53, 172, 107, 108, 109, 110, 111, 46, 47, 48, 22, 49, 54, 55, 56, 57, 25, 58, 59, 41, 42, 43, 44, 40, 60, 61, 62, 112, 113, 114, 115, 116, 117, 118, 119, 120, 173, 174, 175, 45, 176, 177, 178, 179, 180, 181, 182, 183, 184, 185, 186, 187, 188, 189, 190, 35, 191, 192, 193, 194, 195, 196, 197, 198, 199, 200, 201, 202, 203, 106, 204, 205, 206, 207, 208, 209, 210, 211, 137, 138, 139, 212, 213, 214, 215, 216, 217, 218, 219, 220, 221, 222, 223, 224, 225, 226, 227, 228, 229, 230, 231, 232, 233, 234, 235, 236, 237, 238, 239, 240, 241, 242, 243, 244, 245, 246, 247, 248, 249, 250, 251, 252, 253, 254, 255, 256, 257, 258, 259, 260, 261, 262, 263, 264, 265, 266, 267, 268, 269, 270, 271, 272, 273, 274, 275, 276, 277, 278, 279, 280, 281, 282, 283, 284, 285, 286, 287, 288, 289, 290, 291, 478, 479, 480, 481, 491, 492, 493, 494, 495, 496, 497, 498] (by decide +kernel) (by decide +kernel)
set_option maxRecDepth 20000 in
theorem gL_law_X2_step : GoodIn wsL_law (wsV RL 27 RX2 yX2_step wsX2_step) := goodIn_app (goodIn_of _ (by decide +kernel)) ggL_law_X2_step
set_option maxRecDepth 20000 in
theorem ggL_law_X3_step : GoodIn wsL_law wsX3_step := goodIn_r _ [295, 82, 75, 296, 297, 298, 299, 5, 300, 301, 302, 303, 304, 305, 306, 307, 308, 309, 128, 96, 97, 98, 99, 84, 89, 310, 311, 312, 313, 314, 315, 316, 317, 74, 90, 91, 92, 129, 130, 131, 132, 318, 319, 320, 321, 76, 81, 322, 323, 324, 325, 326, 327, 328, 329, 330, 331, 85, 86, 87, 88, 93, 94, 95, 332, 333, 334, 335, 83, 336, 337, 338, 339, 340, 341, 342, 343, 344, 345, 346, 347, 348, 349, 350, 351, 352, 353, 354, 355, 356, 357, 358, 359, 360, 361, 362, 363, 364, 365, 366, 367, 368, 369, 144, 145, 146, 147, 370, 371, 372, 373, 374, 375, 376, 377, 378, 379, 380, 381, 382, 383, 384, 385, 386, 387, 388, 389, 72, 390, 391, 392, 393, 394, 395, 396, 397, 398, 399, 400, 401, 402, 403, 404, 405, 406, 407, 408, 409, 410, 411, 412, 413, 414, 415, 416, 417, 418, 419, 420, 421, 422, 423, 424, 425, 426, 427, 482, 483, 484, 485, 486, 487, 488, 489, 490] (by decide +kernel) (by decide +kernel)
set_option maxRecDepth 20000 in
theorem gL_law_X3_step : GoodIn wsL_law (wsV RL 31 RX3 yX3_step wsX3_step) := goodIn_app (goodIn_of _ (by decide +kernel)) ggL_law_X3_step
set_option maxRecDepth 20000 in
theorem ggL_law_X2_run : GoodIn wsL_law wsX2_run := goodIn_r _ [431, 432, 149, 150, 2, 151, 17, 34, 15, 152, 153, 154, 155, 156, 157, 158, 159, 160, 161, 162, 163, 164, 165, 166, 167, 168, 63, 64, 65, 66, 36, 67, 169, 14, 170, 171, 26, 50, 51, 52, 53, 172, 107, 108, 109, 110, 111, 46, 47, 48, 22, 49, 54, 55, 56, 57, 25, 58, 59, 41, 42, 43, 44, 40, 60, 61, 62, 112, 113, 114, 115, 116, 117, 118, 119, 120, 173, 174, 175, 45, 176, 177, 178, 179, 180, 181, 182, 183, 184, 185, 186, 187, 188, 189, 190, 35, 191, 192, 193, 194, 195, 196, 197, 198, 199, 200, 201, 202, 203, 106, 204, 205, 206, 207, 208, 209, 210, 211, 137, 138, 139, 212, 213, 214, 215, 216, 217, 218, 219, 220, 221, 222, 223, 224, 225, 226, 227, 228, 229, 230, 231, 232, 233, 234, 235, 236, 237, 238, 239, 240, 241, 242, 243, 244, 245, 246, 247, 248, 249, 250, 251, 252, 253, 254, 255, 256, 257, 258, 259, 260, 261, 262, 263, 264, 265, 266, 267, 268, 269, 270, 271, 272, 273, 274, 275, 276, 277, 278, 279, 280, 281, 282, 283, 284, 285, 286, 287, 288, 289, 290, 291, 478, 479, 480, 481, 491, 492, 493, 494, 495, 496, 497, 498] (by decide +kernel) (by decide +kernel)
set_option maxRecDepth 20000 in
theorem gL_law_X2_run : GoodIn wsL_law (wsV RL 32 RX2 yX2_run wsX2_run) := goodIn_app (goodIn_of _ (by decide +kernel)) ggL_law_X2_run
set_option maxRecDepth 20000 in
theorem ggL_law_X3_run : GoodIn wsL_law wsX3_run := goodIn_r _ [436, 437, 293, 294, 5, 295, 82, 75, 296, 297, 298, 299, 300, 301, 302, 303, 304, 305, 306, 307, 308, 309, 128, 96, 97, 98, 99, 84, 89, 310, 311, 312, 313, 314, 315, 316, 317, 74, 90, 91, 92, 129, 130, 131, 132, 318, 319, 320, 321, 76, 81, 322, 323, 324, 325, 326, 327, 328, 329, 330, 331, 85, 86, 87, 88, 93, 94, 95, 332, 333, 334, 335, 83, 336, 337, 338, 339, 340, 341, 342, 343, 344, 345, 346, 347, 348, 349, 350, 351, 352, 353, 354, 355, 356, 357, 358, 359, 360, 361, 362, 363, 364, 365, 366, 367, 368, 369, 144, 145, 146, 147, 370, 371, 372, 373, 374, 375, 376, 377, 378, 379, 380, 381, 382, 383, 384, 385, 386, 387, 388, 389, 72, 390, 391, 392, 393, 394, 395, 396, 397, 398, 399, 400, 401, 402, 403, 404, 405, 406, 407, 408, 409, 410, 411, 412, 413, 414, 415, 416, 417, 418, 419, 420, 421, 422, 423, 424, 425, 426, 427, 482, 483, 484, 485, 486, 487, 488, 489, 490] (by decide +kernel) (by decide +kernel)
set_option maxRecDepth 20000 in
theorem gL_law_X3_run : GoodIn wsL_law (wsV RL 35 RX3 yX3_run wsX3_run) := goodIn_app (goodIn_of _ (by decide +kernel)) ggL_law_X3_run
set_option maxRecDepth 20000 in
theorem ggL_law_X2_reg : GoodIn wsL_law wsX2_reg := goodIn_r _ [441, 17, 478, 479, 480, 481] (by decide +kernel) (by decide +kernel)
set_option maxRecDepth 20000 in
theorem gL_law_X2_reg : GoodIn wsL_law (wsV RL 36 RX2 yX2_reg wsX2_reg) := goodIn_app (goodIn_of _ (by decide +kernel)) ggL_law_X2_reg
set_option maxRecDepth 20000 in
theorem ggL_law_X3_reg : GoodIn wsL_law wsX3_reg := goodIn_r _ [445, 75, 482, 483, 484, 485, 486, 487, 488, 489, 490] (by decide +kernel) (by decide +kernel)
set_option maxRecDepth 20000 in
theorem gL_law_X3_reg : GoodIn wsL_law (wsV RL 39 RX3 yX3_reg wsX3_reg) := goodIn_app (goodIn_of _ (by decide +kernel)) ggL_law_X3_reg
set_option maxRecDepth 20000 in
theorem ggL_law_X2_raise : GoodIn wsL_law wsX2_raise := goodIn_r _ [449, 34, 478, 479, 480, 481] (by decide +kernel) (by decide +kernel)
set_option maxRecDepth 20000 in
theorem gL_law_X2_raise : GoodIn wsL_law (wsV RL 40 RX2 yX2_raise wsX2_raise) := goodIn_app (goodIn_of _ (by decide +kernel)) ggL_law_X2_raise
set_option maxRecDepth 20000 in
theorem ggL_law_X3_raise : GoodIn wsL_law wsX3_raise := goodIn_r _ [453, 82, 482, 483, 484, 485, 486, 487, 488, 489, 490] (by decide +kernel) (by decide +kernel)
set_option maxRecDepth 20000 in
theorem gL_law_X3_raise : GoodIn wsL_law (wsV RL 44 RX3 yX3_raise wsX3_raise) := goodIn_app (goodIn_of _ (by decide +kernel)) ggL_law_X3_raise
set_option maxRecDepth 20000 in
theorem ggL_law_X2_cyclesOf : GoodIn wsL_law wsX2_cyclesOf := goodIn_r _ [457, 35, 478, 479, 480, 481] (by decide +kernel) (by decide +kernel)
set_option maxRecDepth 20000 in
theorem gL_law_X2_cyclesOf : GoodIn wsL_law (wsV RL 45 RX2 yX2_cyclesOf wsX2_cyclesOf) := goodIn_app (goodIn_of _ (by decide +kernel)) ggL_law_X2_cyclesOf
set_option maxRecDepth 20000 in
theorem ggL_law_X3_cyclesOf : GoodIn wsL_law wsX3_cyclesOf := goodIn_r _ [461, 83, 482, 483, 484, 485, 486, 487, 488, 489, 490] (by decide +kernel) (by decide +kernel)
set_option maxRecDepth 20000 in
theorem gL_law_X3_cyclesOf : GoodIn wsL_law (wsV RL 48 RX3 yX3_cyclesOf wsX3_cyclesOf) := goodIn_app (goodIn_of _ (by decide +kernel)) ggL_law_X3_cyclesOf
set_option maxRecDepth 20000 in
theorem ggL_law_X2_pending : GoodIn wsL_law wsX2_pending := goodIn_r _ [465, 34, 478, 479, 480, 481] (by decide +kernel) (by decide +kernel)
set_option maxRecDepth 20000 in
theorem gL_law_X2_pending : GoodIn wsL_law (wsV RL 49 RX2 yX2_pending wsX2_pending) := goodIn_app (goodIn_of _ (by decide +kernel)) ggL_law_X2_pending
set_option maxRecDepth 20000 in
theorem ggL_law_X3_pending : GoodIn wsL_law wsX3_pending := goodIn_r _ [469, 82, 482, 483, 484, 485, 486, 487, 488, 489, 490] (by decide +kernel) (by decide +kernel)
set_option maxRecDepth 20000 in
theorem gL_law_X3_pending : GoodIn wsL_law (wsV RL 52 RX3 yX3_pending wsX3_pending) := goodIn_app (goodIn_of _ (by decide +kernel)) ggL_law_X3_pending
set_option maxRecDepth 20000 in
theorem ggL_law_X2_mode : GoodIn wsL_law wsX2_mode := goodIn_r _ [473, 15, 478, 479, 480, 481, 491, 492, 493, 494, 495, 496, 497, 498] (by decide +kernel) (by decide +kernel)
set_option maxRecDepth 20000 in
theorem gL_law_X2_mode : GoodIn wsL_law (wsV RL 53 RX2 yX2_mode wsX2_mode) := goodIn_app (goodIn_of _ (by decide +kernel)) ggL_law_X2_mode
set_option maxRecDepth 20000 in
theorem ggL_law_X3_mode : GoodIn wsL_law wsX3_mode := goodIn_r _ [477, 81, 482, 483, 484, 485, 486, 487, 488, 489, 490] (by decide +kernel) (by decide +kernel)
set_option maxRecDepth 20000 in
theorem gL_law_X3_mode : GoodIn wsL_law (wsV RL 56 RX3 yX3_mode wsX3_mode) := goodIn_app (goodIn_of _ (by decide +kernel)) ggL_law_X3_mode
theorem dL_law_0 : decode cL_law 0 = .ok (.new 7, 3) := by decide +kernel
theorem dL_law_3 : decode cL_law 3 = .ok (.dup, 1) := by decide +kernel
theorem dL_law_4 : decode cL_law 4 = .ok (.invokespecial 9, 3) := by decide +kernel
theorem dL_law_7 : decode cL_law 7 = .ok (.astore_n 1, 1) := by decide +kernel
theorem dL_law_8 : decode cL_law 8 = .ok (.new 10, 3) := by decide +kernel
theorem dL_law_11 : decode cL_law 11 = .ok (.dup, 1) := by decide +kernel
theorem dL_law_12 : decode cL_law 12 = .ok (.invokespecial 12, 3) := by decide +kernel
theorem dL_law_15 : decode cL_law 15 = .ok (.astore_n 2, 1) := by decide +kernel
theorem dL_law_16 : decode cL_law 16 = .ok (.iconst 0, 1) := by decide +kernel
theorem dL_law_17 : decode cL_law 17 = .ok (.istore_n 3, 1) := by decide +kernel
theorem dL_law_18 : decode cL_law 18 = .ok (.iload_n 3, 1) := by decide +kernel
theorem dL_law_19 : decode cL_law 19 = .ok (.aload_n 0, 1) := by decide +kernel
theorem dL_law_20 : decode cL_law 20 = .ok (.arraylength, 1) := by decide +kernel
theorem dL_law_21 : decode cL_law 21 = .ok (.iconst 3, 1) := by decide +kernel
theorem dL_law_22 : decode cL_law 22 = .ok (.isub, 1) := by decide +kernel
theorem dL_law_23 : decode cL_law 23 = .ok (.if_icmp .gt 259, 3) := by decide +kernel
theorem dL_law_26 : decode cL_law 26 = .ok (.aload_n 0, 1) := by decide +kernel
theorem dL_law_27 : decode cL_law 27 = .ok (.iload_n 3, 1) := by decide +kernel
theorem dL_law_28 : decode cL_law 28 = .ok (.iaload, 1) := by decide +kernel
theorem dL_law_29 : decode cL_law 29 = .ok (.bipush 15, 2) := by decide +kernel
theorem dL_law_31 : decode cL_law 31 = .ok (.iand, 1) := by decide +kernel
theorem dL_law_32 : decode cL_law 32 = .ok (.tableswitch 244 0 9 #[56, 67, 100, 123, 136, 159, 182, 205, 218, 231], 56) := by decide +kernel
theorem dL_law_88 : decode cL_law 88 = .ok (.aload_n 1, 1) := by decide +kernel
theorem dL_law_89 : decode cL_law 89 = .ok (.invokevirtual 13, 3) := by decide +kernel
theorem dL_law_92 : decode cL_law 92 = .ok (.aload_n 2, 1) := by decide +kernel
theorem dL_law_93 : decode cL_law 93 = .ok (.invokevirtual 16, 3) := by decide +kernel
theorem dL_law_96 : decode cL_law 96 = .ok (.goto 180, 3) := by decide +kernel
theorem dL_law_99 : decode cL_law 99 = .ok (.aload_n 1, 1) := by decide +kernel
theorem dL_law_100 : decode cL_law 100 = .ok (.aload_n 0, 1) := by decide +kernel
theorem dL_law_101 : decode cL_law 101 = .ok (.iload_n 3, 1) := by decide +kernel
theorem dL_law_102 : decode cL_law 102 = .ok (.iconst 1, 1) := by decide +kernel
theorem dL_law_103 : decode cL_law 103 = .ok (.iadd, 1) := by decide +kernel
theorem dL_law_104 : decode cL_law 104 = .ok (.iaload, 1) := by decide +kernel
theorem dL_law_105 : decode cL_law 105 = .ok (.aload_n 0, 1) := by decide +kernel
theorem dL_law_106 : decode cL_law 106 = .ok (.iload_n 3, 1) := by decide +kernel
theorem dL_law_107 : decode cL_law 107 = .ok (.iconst 2, 1) := by decide +kernel
theorem dL_law_108 : decode cL_law 108 = .ok (.iadd, 1) := by decide +kernel
theorem dL_law_109 : decode cL_law 109 = .ok (.iaload, 1) := by decide +kernel
theorem dL_law_110 : decode cL_law 110 = .ok (.invokevirtual 17, 3) := by decide +kernel
theorem dL_law_113 : decode cL_law 113 = .ok (.aload_n 2, 1) := by decide +kernel
theorem dL_law_114 : decode cL_law 114 = .ok (.aload_n 0, 1) := by decide +kernel
theorem dL_law_115 : decode cL_law 115 = .ok (.iload_n 3, 1) := by decide +kernel
theorem dL_law_116 : decode cL_law 116 = .ok (.iconst 1, 1) := by decide +kernel
theorem dL_law_117 : decode cL_law 117 = .ok (.iadd, 1) := by decide +kernel
theorem dL_law_118 : decode cL_law 118 = .ok (.iaload, 1) := by decide +kernel
theorem dL_law_119 : decode cL_law 119 = .ok (.aload_n 0, 1) := by decide +kernel
theorem dL_law_120 : decode cL_law 120 = .ok (.iload_n 3, 1) := by decide +kernel
theorem dL_law_121 : decode cL_law 121 = .ok (.iconst 2, 1) := by decide +kernel
theorem dL_law_122 : decode cL_law 122 = .ok (.iadd, 1) := by decide +kernel
theorem dL_law_123 : decode cL_law 123 = .ok (.iaload, 1) := by decide +kernel
theorem dL_law_124 : decode cL_law 124 = .ok (.invokevirtual 21, 3) := by decide +kernel
theorem dL_law_127 : decode cL_law 127 = .ok (.if_icmp .eq 149, 3) := by decide +kernel
theorem dL_law_130 : decode cL_law 130 = .ok (.iconst 0, 1) := by decide +kernel
theorem dL_law_131 : decode cL_law 131 = .ok (.ireturn, 1) := by decide +kernel
theorem dL_law_132 : decode cL_law 132 = .ok (.aload_n 1, 1) := by decide +kernel
theorem dL_law_133 : decode cL_law 133 = .ok (.aload_n 0, 1) := by decide +kernel
theorem dL_law_134 : decode cL_law 134 = .ok (.iload_n 3, 1) := by decide +kernel
theorem dL_law_135 : decode cL_law 135 = .ok (.iconst 1, 1) := by decide +kernel
theorem dL_law_136 : decode cL_law 136 = .ok (.iadd, 1) := by decide +kernel
theorem dL_law_137 : decode cL_law 137 = .ok (.iaload, 1) := by decide +kernel
theorem dL_law_138 : decode cL_law 138 = .ok (.invokevirtual 22, 3) := by decide +kernel
theorem dL_law_141 : decode cL_law 141 = .ok (.aload_n 2, 1) := by decide +kernel
theorem dL_law_142 : decode cL_law 142 = .ok (.aload_n 0, 1) := by decide +kernel
theorem dL_law_143 : decode cL_law 143 = .ok (.iload_n 3, 1) := by decide +kernel
theorem dL_law_144 : decode cL_law 144 = .ok (.iconst 1, 1) := by decide +kernel
theorem dL_law_145 : decode cL_law 145 = .ok (.iadd, 1) := by decide +kernel
theorem dL_law_146 : decode cL_law 146 = .ok (.iaload, 1) := by decide +kernel
theorem dL_law_147 : decode cL_law 147 = .ok (.invokevirtual 26, 3) := by decide +kernel
theorem dL_law_150 : decode cL_law 150 = .ok (.if_icmp .eq 126, 3) := by decide +kernel
theorem dL_law_153 : decode cL_law 153 = .ok (.iconst 0, 1) := by decide +kernel
theorem dL_law_154 : decode cL_law 154 = .ok (.ireturn, 1) := by decide +kernel
theorem dL_law_155 : decode cL_law 155 = .ok (.aload_n 1, 1) := by decide +kernel
theorem dL_law_156 : decode cL_law 156 = .ok (.invokevirtual 27, 3) := by decide +kernel
theorem dL_law_159 : decode cL_law 159 = .ok (.aload_n 2, 1) := by decide +kernel
theorem dL_law_160 : decode cL_law 160 = .ok (.invokevirtual 31, 3) := by decide +kernel
theorem dL_law_163 : decode cL_law 163 = .ok (.if_icmp .eq 113, 3) := by decide +kernel
theorem dL_law_166 : decode cL_law 166 = .ok (.iconst 0, 1) := by decide +kernel
theorem dL_law_167 : decode cL_law 167 = .ok (.ireturn, 1) := by decide +kernel
theorem dL_law_168 : decode cL_law 168 = .ok (.aload_n 1, 1) := by decide +kernel
theorem dL_law_169 : decode cL_law 169 = .ok (.aload_n 0, 1) := by decide +kernel
theorem dL_law_170 : decode cL_law 170 = .ok (.iload_n 3, 1) := by decide +kernel
theorem dL_law_171 : decode cL_law 171 = .ok (.iconst 1, 1) := by decide +kernel
theorem dL_law_172 : decode cL_law 172 = .ok (.iadd, 1) := by decide +kernel
theorem dL_law_173 : decode cL_law 173 = .ok (.iaload, 1) := by decide +kernel
theorem dL_law_174 : decode cL_law 174 = .ok (.invokevirtual 32, 3) := by decide +kernel
theorem dL_law_177 : decode cL_law 177 = .ok (.aload_n 2, 1) := by decide +kernel
theorem dL_law_178 : decode cL_law 178 = .ok (.aload_n 0, 1) := by decide +kernel
theorem dL_law_179 : decode cL_law 179 = .ok (.iload_n 3, 1) := by decide +kernel
theorem dL_law_180 : decode cL_law 180 = .ok (.iconst 1, 1) := by decide +kernel
theorem dL_law_181 : decode cL_law 181 = .ok (.iadd, 1) := by decide +kernel
theorem dL_law_182 : decode cL_law 182 = .ok (.iaload, 1) := by decide +kernel
theorem dL_law_183 : decode cL_law 183 = .ok (.invokevirtual 35, 3) := by decide +kernel
theorem dL_law_186 : decode cL_law 186 = .ok (.if_icmp .eq 90, 3) := by decide +kernel
theorem dL_law_189 : decode cL_law 189 = .ok (.iconst 0, 1) := by decide +kernel
theorem dL_law_190 : decode cL_law 190 = .ok (.ireturn, 1) := by decide +kernel
theorem dL_law_191 : decode cL_law 191 = .ok (.aload_n 1, 1) := by decide +kernel
theorem dL_law_192 : decode cL_law 192 = .ok (.aload_n 0, 1) := by decide +kernel
theorem dL_law_193 : decode cL_law 193 = .ok (.iload_n 3, 1) := by decide +kernel
theorem dL_law_194 : decode cL_law 194 = .ok (.iconst 1, 1) := by decide +kernel
theorem dL_law_195 : decode cL_law 195 = .ok (.iadd, 1) := by decide +kernel
theorem dL_law_196 : decode cL_law 196 = .ok (.iaload, 1) := by decide +kernel
theorem dL_law_197 : decode cL_law 197 = .ok (.invokevirtual 36, 3) := by decide +kernel
theorem dL_law_200 : decode cL_law 200 = .ok (.aload_n 2, 1) := by decide +kernel
theorem dL_law_201 : decode cL_law 201 = .ok (.aload_n 0, 1) := by decide +kernel
theorem dL_law_202 : decode cL_law 202 = .ok (.iload_n 3, 1) := by decide +kernel
theorem dL_law_203 : decode cL_law 203 = .ok (.iconst 1, 1) := by decide +kernel
theorem dL_law_204 : decode cL_law 204 = .ok (.iadd, 1) := by decide +kernel
theorem dL_law_205 : decode cL_law 205 = .ok (.iaload, 1) := by decide +kernel
theorem dL_law_206 : decode cL_law 206 = .ok (.invokevirtual 39, 3) := by decide +kernel
theorem dL_law_209 : decode cL_law 209 = .ok (.if_icmp .eq 67, 3) := by decide +kernel
theorem dL_law_212 : decode cL_law 212 = .ok (.iconst 0, 1) := by decide +kernel
theorem dL_law_213 : decode cL_law 213 = .ok (.ireturn, 1) := by decide +kernel
theorem dL_law_214 : decode cL_law 214 = .ok (.aload_n 1, 1) := by decide +kernel
theorem dL_law_215 : decode cL_law 215 = .ok (.aload_n 0, 1) := by decide +kernel
theorem dL_law_216 : decode cL_law 216 = .ok (.iload_n 3, 1) := by decide +kernel
theorem dL_law_217 : decode cL_law 217 = .ok (.iconst 1, 1) := by decide +kernel
theorem dL_law_218 : decode cL_law 218 = .ok (.iadd, 1) := by decide +kernel
theorem dL_law_219 : decode cL_law 219 = .ok (.iaload, 1) := by decide +kernel
theorem dL_law_220 : decode cL_law 220 = .ok (.invokevirtual 40, 3) := by decide +kernel
theorem dL_law_223 : decode cL_law 223 = .ok (.aload_n 2, 1) := by decide +kernel
theorem dL_law_224 : decode cL_law 224 = .ok (.aload_n 0, 1) := by decide +kernel
theorem dL_law_225 : decode cL_law 225 = .ok (.iload_n 3, 1) := by decide +kernel
theorem dL_law_226 : decode cL_law 226 = .ok (.iconst 1, 1) := by decide +kernel
theorem dL_law_227 : decode cL_law 227 = .ok (.iadd, 1) := by decide +kernel
theorem dL_law_228 : decode cL_law 228 = .ok (.iaload, 1) := by decide +kernel
theorem dL_law_229 : decode cL_law 229 = .ok (.invokevirtual 44, 3) := by decide +kernel
theorem dL_law_232 : decode cL_law 232 = .ok (.if_icmp .eq 44, 3) := by decide +kernel
theorem dL_law_235 : decode cL_law 235 = .ok (.iconst 0, 1) := by decide +kernel
theorem dL_law_236 : decode cL_law 236 = .ok (.ireturn, 1) := by decide +kernel
theorem dL_law_237 : decode cL_law 237 = .ok (.aload_n 1, 1) := by decide +kernel
theorem dL_law_238 : decode cL_law 238 = .ok (.invokevirtual 45, 3) := by decide +kernel
theorem dL_law_241 : decode cL_law 241 = .ok (.aload_n 2, 1) := by decide +kernel
theorem dL_law_242 : decode cL_law 242 = .ok (.invokevirtual 48, 3) := by decide +kernel
theorem dL_law_245 : decode cL_law 245 = .ok (.if_icmp .eq 31, 3) := by decide +kernel
theorem dL_law_248 : decode cL_law 248 = .ok (.iconst 0, 1) := by decide +kernel
theorem dL_law_249 : decode cL_law 249 = .ok (.ireturn, 1) := by decide +kernel
theorem dL_law_250 : decode cL_law 250 = .ok (.aload_n 1, 1) := by decide +kernel
theorem dL_law_251 : decode cL_law 251 = .ok (.invokevirtual 49, 3) := by decide +kernel
theorem dL_law_254 : decode cL_law 254 = .ok (.aload_n 2, 1) := by decide +kernel
theorem dL_law_255 : decode cL_law 255 = .ok (.invokevirtual 52, 3) := by decide +kernel
theorem dL_law_258 : decode cL_law 258 = .ok (.if_icmp .eq 18, 3) := by decide +kernel
theorem dL_law_261 : decode cL_law 261 = .ok (.iconst 0, 1) := by decide +kernel
theorem dL_law_262 : decode cL_law 262 = .ok (.ireturn, 1) := by decide +kernel
theorem dL_law_263 : decode cL_law 263 = .ok (.aload_n 1, 1) := by decide +kernel
theorem dL_law_264 : decode cL_law 264 = .ok (.invokevirtual 53, 3) := by decide +kernel
theorem dL_law_267 : decode cL_law 267 = .ok (.aload_n 2, 1) := by decide +kernel
theorem dL_law_268 : decode cL_law 268 = .ok (.invokevirtual 56, 3) := by decide +kernel
theorem dL_law_271 : decode cL_law 271 = .ok (.if_icmp .eq 5, 3) := by decide +kernel
theorem dL_law_274 : decode cL_law 274 = .ok (.iconst 0, 1) := by decide +kernel
theorem dL_law_275 : decode cL_law 275 = .ok (.ireturn, 1) := by decide +kernel
theorem dL_law_276 : decode cL_law 276 = .ok (.iinc 3 3, 3) := by decide +kernel
theorem dL_law_279 : decode cL_law 279 = .ok (.goto (-261), 3) := by decide +kernel
theorem dL_law_282 : decode cL_law 282 = .ok (.iconst 1, 1) := by decide +kernel
theorem dL_law_283 : decode cL_law 283 = .ok (.ireturn, 1) := by decide +kernel
end
section
/-! The verifier's own rows: joins, worlds of the class (C) and of the reference (R), calls over a whole world. -/
section WJ
variable {p : Program} {l : Launch} {e : Env} {R : Room} {s : State} {m : MethodId} {args : Array Value} {below : List Frame} {meth : Method} {c : Code} {H : Heap} {locs : List Loc} {cells slots : Nat} {Q : State → Prop}
/-- ways that meet: what stands behind them is walked once, for a value v that each way gives -/
theorem wj {α : Type} {D : va_G} {cl : List vw_C} {A : Nat → Prop} {H0 : Heap} {g : JFrame} (v0 : α) (ws : α → va_W) (L : α → List (Nat × Value)) (nL : Nat) (F : α → Array Slot → JFrame)
    (j : ∀ (v : α) (ls : Array Slot) (H : Heap) (locs : List Loc), v = v0 → lv_has ls nL (L v) → va_P D cl (ws v) H → va_D A (ws v) → va_S A H0 H locs → W p l e R s m args below meth c H locs cells slots Q (F v ls))
    (k : (∀ (v : α) (ls : Array Slot) (H : Heap) (locs : List Loc), v = v0 → lv_has ls nL (L v) → va_P D cl (ws v) H → va_D A (ws v) → va_S A H0 H locs → W p l e R s m args below meth c H locs cells slots Q (F v ls)) → W p l e R s m args below meth c H locs cells slots Q g) : W p l e R s m args below meth c H locs cells slots Q g := k j
end WJ
theorem i32ne {x k : Int32} {n : Int} (hk : k.toInt = n) (h : ¬ x = k) : x.toInt ≠ n := fun q => h (Int32.toInt_inj.mp (q.trans hk.symm))
theorem in_c {i : Int32} {n : Nat} (h : (decide (i < 0) || decide (n ≤ i.toNatClampNeg)) = false) : vp_in i n := by
  intro q
  simp only [Bool.or_eq_false_iff, decide_eq_false_iff_not] at h
  rcases q with q | q
  · exact h.1 q
  · exact h.2 q
theorem in_rng {i N : Int32} {n : Nat} (hN : N.toInt = n) (h1 : ¬ i < 0) (h2 : ¬ N ≤ i) : vp_in i n := by
  rw [vp_in_iff]
  rw [Int32.lt_iff_toInt_lt] at h1
  rw [Int32.le_iff_toInt_le] at h2
  have h0 : (0 : Int32).toInt = 0 := rfl
  omega
/-- which addresses a side's methods may write: its own cells, and those that come -/
def AX (n : Nat) (h : Nat → Nat) (sz : Nat) : Nat → Prop := fun q => (∃ i, i < n ∧ q = h i) ∨ sz ≤ q
theorem AX_mono {n : Nat} {h : Nat → Nat} {a b : Nat} (hab : a ≤ b) : ∀ q, AX n h b q → AX n h a q := fun _ hq => hq.elim Or.inl (fun z => Or.inr (Nat.le_trans hab z))
/-- words on nest mates -/
def isNest : Cond → Bool
  | .fieldLinkNest .. => true
  | .methodLinkNest .. => true
  | _ => false
theorem nest_tab {w : Cond} (hw : isNest w = true) : w.onTables = true := by
  cases w <;> first | rfl | (simp [isNest] at hw; done)
theorem nest_moved {w : Cond} (hw : isNest w = true) {s U : State} (hW : s.WarmedH U.vm) (h : va_Nw w s) : va_Nw w U := by
  cases w <;> first | exact va_Nw.warmF hW h | exact va_Nw.warmM hW h | (simp [isNest] at hw; done)
theorem nb01 {v : Int32} (h : v = 0 ∨ v = 1) : narrow .boolean (.int v) = .int v := by
  rcases h with rfl | rfl <;> rfl
theorem fb01 {v : Int32} (h : v = 0 ∨ v = 1) : fits .boolean (.int v) = true := by
  rcases h with rfl | rfl <;> rfl
end
section
/-! the class's state: registers, pendingLines, cycles, cells, and the multiplier's one, two, low, high, extra, way -/
abbrev StC : Type := (Nat → Int32) × Int32 × Int32 × (Nat → Int64) × Int32 × Int32 × Int32 × Int32 × Int32 × Int32
def wsC (h : Nat → Nat) (k : Nat → ClassId) (u : StC) : va_W := [(h 0, .inr (2, [.ref (h 1), .ref (h 2), .int u.2.1, .int u.2.2.1])), (h 1, .inr (0, [.ref (h 3), .ref (h 4)])), (h 2, .inl (k 0, 16, .inl u.1)), (h 3, .inl (k 1, 8192, .inr (.inl u.2.2.2.1))), (h 4, .inr (1, [.int u.2.2.2.2.1, .int u.2.2.2.2.2.1, .int u.2.2.2.2.2.2.1, .int u.2.2.2.2.2.2.2.1, .int u.2.2.2.2.2.2.2.2.1, .int u.2.2.2.2.2.2.2.2.2]))]
/-! the reference's state: words, r, by, how, lines, cycles, part, where, bytes -/
abbrev StR : Type := (Nat → Int32) × (Nat → Int32) × (Nat → Int32) × Int32 × Int32 × Int32 × Int32 × Int32 × Int32
def wsR (h : Nat → Nat) (k : Nat → ClassId) (u : StR) : va_W := [(h 0, .inr (3, [.ref (h 1), .ref (h 2), .ref (h 3), .int u.2.2.2.1, .int u.2.2.2.2.1, .int u.2.2.2.2.2.1, .int u.2.2.2.2.2.2.1, .int u.2.2.2.2.2.2.2.1, .int u.2.2.2.2.2.2.2.2])), (h 1, .inl (k 1, 32768, .inl u.1)), (h 2, .inl (k 0, 16, .inl u.2.1)), (h 3, .inl (k 0, 5, .inl u.2.2.1))]
def nestC : List Cond := [.methodLinkNest RX2 11 yX0_init RX2, .methodLinkNest RX0 17 yX1_init RX2, .methodLinkNest RX2 34 yX1_clear RX2, .methodLinkNest RX2 40 yX0_wordAt RX2, .methodLinkNest RX0 31 yX1_wordAtSlot RX2, .methodLinkNest RX2 49 yX0_placeByte RX2, .methodLinkNest RX0 52 yX1_placeWordAtSlot RX2, .methodLinkNest RX2 52 yX0_byteAt RX2, .methodLinkNest RX2 153 yX0_writeByte RX2, .methodLinkNest RX0 41 yX1_write RX2, .methodLinkNest RX2 156 yX0_writeWord RX2, .fieldLinkNest RX2 82 "LowPowerCpu$Multiplier" "way" "I" RX2, .fieldLinkNest RX2 30 "LowPowerCpu$Memory" "multiplier" "LLowPowerCpu$Multiplier;" RX2]
theorem nestC_ok : ∀ w ∈ nestC, isNest w = true := by decide +kernel
/-- the class's tables of cycles -/
def tabN : Nat → String := fun i => match i with
  | 0 => "KIND_OF_WAY"
  | 1 => "TO_REGISTER_CYCLES"
  | 2 => "TO_PC_CYCLES"
  | 3 => "TO_MEMORY_CYCLES"
  | 4 => "CHANGE_CYCLES"
  | 5 => "PUSH_CYCLES"
  | _ => "CALL_CYCLES"
def tabC : Nat → Nat → Int32 := fun i => match i with
  | 0 => fun j => match j with | 0 => 0 | 1 => 3 | 2 => 1 | _ => 2
  | 1 => fun j => match j with | 0 => 1 | 1 => 2 | 2 => 2 | _ => 3
  | 2 => fun j => match j with | 0 => 2 | 1 => 2 | 2 => 3 | _ => 3
  | 3 => fun j => match j with | 0 => 4 | 1 => 5 | 2 => 5 | _ => 6
  | 4 => fun j => match j with | 0 => 1 | 1 => 3 | 2 => 3 | _ => 4
  | 5 => fun j => match j with | 0 => 3 | 1 => 4 | 2 => 5 | _ => 5
  | _ => fun j => match j with | 0 => 4 | 1 => 4 | 2 => 5 | _ => 5
def ctC (D : va_G) (k : Nat → ClassId) (g : Nat → Nat) (A : Nat → Prop) (U : State) : Prop := va_K D vwCl [(k 0, .int), (k 1, .long)] U ∧ (∀ w ∈ nestC, va_Nw w U) ∧ (∀ i, i < 7 → va_Z "LowPowerCpu" (tabN i) "[I" (.ref (g i)) A U U.heap) ∧ (∀ i, i < 7 → va_T .int (g i) 4 (fun j => .int (tabC i j)) A U U.heap)
theorem ctC_moved {D : va_G} {k : Nat → ClassId} {g : Nat → Nat} {A B : Nat → Prop} {s U : State} {H : Heap} {locs : List Loc} (hW : s.WarmedH U.vm) (hU : U.heap = H) (hS : va_S A s.heap H locs) (hAB : ∀ q, B q → A q) (c : ctC D k g A s) : ctC D k g B U := by
  obtain ⟨c1, c2, c3, c4⟩ := c
  refine ⟨va_K.moved hW.alike c1, fun w hw => nest_moved (nestC_ok w hw) hW (c2 w hw), fun i hi => ?_, fun i hi => ?_⟩
  · rw [hU]; exact (((c3 i hi).kept hS.2.1).narrow hAB).moved hW.alike
  · rw [hU]; exact (((c4 i hi).kept hS.2.1).narrow hAB).moved hW.alike
theorem ctC_same {D : va_G} {k : Nat → ClassId} {g : Nat → Nat} {A : Nat → Prop} {u U : State} (hv : u.vm = U.vm) (hh : u.heap = U.heap) (c : ctC D k g A u) : ctC D k g A U := by
  obtain ⟨c1, c2, c3, c4⟩ := c
  have ha : u.vm.Alike U.vm := by rw [hv]; exact Vm.Alike.refl U.vm
  refine ⟨va_K.moved ha c1, fun w hw => va_Nw.same (nest_tab (nestC_ok w hw)) hv (c2 w hw), fun i hi => ?_, fun i hi => ?_⟩
  · rw [← hh]; exact (c3 i hi).moved ha
  · rw [← hh]; exact (c4 i hi).moved ha
def ctR (D : va_G) (k : Nat → ClassId) (A : Nat → Prop) (U : State) : Prop := va_K D vwCl [(k 0, .int), (k 1, .short)] U ∧ True
theorem ctR_moved {D : va_G} {k : Nat → ClassId} {A B : Nat → Prop} {s U : State} {H : Heap} {locs : List Loc} (hW : s.WarmedH U.vm) (hU : U.heap = H) (hS : va_S A s.heap H locs) (hAB : ∀ q, B q → A q) (c : ctR D k A s) : ctR D k B U := ⟨va_K.moved hW.alike c.1, trivial⟩
theorem ctR_same {D : va_G} {k : Nat → ClassId} {A : Nat → Prop} {u U : State} (hv : u.vm = U.vm) (hh : u.heap = U.heap) (c : ctR D k A u) : ctR D k A U := ⟨va_K.moved (by rw [hv]; exact Vm.Alike.refl U.vm) c.1, trivial⟩
theorem ownC {h : Nat → Nat} {k : Nat → ClassId} {u : StC} {sz : Nat} : ∀ (i : Nat) (q : Nat × va_E), (wsC h k u)[i]? = some q → AX 5 h sz q.1 := by
  intro i q hq
  match i, hq with
  | 0, hq => cases hq; exact Or.inl ⟨0, by decide, rfl⟩
  | 1, hq => cases hq; exact Or.inl ⟨1, by decide, rfl⟩
  | 2, hq => cases hq; exact Or.inl ⟨2, by decide, rfl⟩
  | 3, hq => cases hq; exact Or.inl ⟨3, by decide, rfl⟩
  | 4, hq => cases hq; exact Or.inl ⟨4, by decide, rfl⟩
  | i + 5, hq => simp [wsC] at hq
def PcC (D : va_G) (h : Nat → Nat) (k : Nat → ClassId) (g : Nat → Nat) (av : List Value) (sz : Nat) (u : StC) : Array Value → State → Prop := va_Pc av (fun U => U.heap.size = sz ∧ va_P D vwCl (wsC h k u) U.heap ∧ ctC D k g (AX 5 h sz) U ∧ va_D (AX 5 h sz) (wsC h k u))
def BC (D : va_G) (h : Nat → Nat) (k : Nat → ClassId) (A : Nat → Prop) (u : StC) (t : State) : Prop := va_P D vwCl (wsC h k u) t.heap ∧ va_D A (wsC h k u)
theorem blindC {D : va_G} {h : Nat → Nat} {k : Nat → ClassId} {g : Nat → Nat} {av : List Value} {sz : Nat} {u : StC} : FrameBlind (PcC D h k g av sz u) := by
  intro a U gg mk q
  obtain ⟨q0, q1, q2, q3, q4⟩ := q
  exact ⟨q0, q1, q2, ctC_same (u := U) (U := U.calling gg mk a) rfl rfl q3, q4⟩
section KC
variable {p : Program} {l : Launch} {e : Env} {R : Room} {s : State} {m : MethodId} {args : Array Value} {below : List Frame} {meth : Method} {c : Code} {H : Heap} {locs : List Loc} {cells slots : Nat} {Q : State → Prop}
variable {D : va_G} {h : Nat → Nat} {k : Nat → ClassId} {g : Nat → Nat} {u : StC} {As rest st0 : List Value} {pc : Nat} {ls : Array Slot} {a : Array Value} {cc : ByteArray}
theorem preC_V {C : String} {T : u_T} {N ci q0 b : Nat} {fs : List Value} (ct : ctC D k g (AX 5 h s.heap.size) s) (hP : va_P D vwCl (wsC h k u) H) (hD : va_D (AX 5 h s.heap.size) (wsC h k u)) (hS : va_S (AX 5 h s.heap.size) s.heap H locs) (hc : vwCl[ci]? = some (C, T, N)) (he : (wsC h k u)[q0]? = some (b, .inr (ci, fs))) : PreV s H C b (PcC D h k g (Value.ref b :: As) H.size u) As :=
  ⟨blindC, va_recv ct.1 hP hc he, fun U hU hW => ⟨rfl, by rw [hU], by rw [hU]; exact hP, ctC_moved hW hU hS (AX_mono hS.1) ct, ⟨hD.1, fun i q hq => by
    have h1 := hP i q hq
    have h2 := h1.lt
    rcases hD.2 i q hq with z | z
    · exact Or.inl z
    · exact ownC i q hq⟩⟩⟩
theorem preC_S (ct : ctC D k g (AX 5 h s.heap.size) s) (hP : va_P D vwCl (wsC h k u) H) (hD : va_D (AX 5 h s.heap.size) (wsC h k u)) (hS : va_S (AX 5 h s.heap.size) s.heap H locs) : PreS s H (PcC D h k g As H.size u) As :=
  ⟨blindC, fun U hU hW => ⟨rfl, by rw [hU], by rw [hU]; exact hP, ctC_moved hW hU hS (AX_mono hS.1) ct, ⟨hD.1, fun i q hq => ownC i q hq⟩⟩⟩
theorem callC_i {F : Int32 × StC} (hr : va_Run p l e R s m args below meth c H locs cells slots 0 0 (F0 m pc ls st0) rest (va_Qi (fun r u => (r, u) = F) (BC D h k (AX 5 h H.size)) (AX 5 h H.size) a) (AX 5 h H.size)) (hS : va_S (AX 5 h s.heap.size) s.heap H locs)
    (kk : ∀ (r : Int32) (u : StC) (H1 : Heap) (locs1 : List Loc), r = F.1 → u = F.2 → va_P D vwCl (wsC h k u) H1 → va_D (AX 5 h s.heap.size) (wsC h k u) → va_S (AX 5 h s.heap.size) s.heap H1 locs1 → W p l e R s m args below meth c H1 locs1 cells slots Q (F0 m (pc + 3) ls (.int r :: rest))) : W p l e R s m args below meth c H locs cells slots Q (F0 m pc ls st0) :=
  va_calli hr hS (fun q _ z => AX_mono hS.1 q z) (AX_mono hS.1) (fun r u t H1 locs1 ht _ hw hB _ _ hS1 => kk r u H1 locs1 (by rw [← hw]) (by rw [← hw]) (by rw [← ht]; exact hB.1) (hB.2.weaken (fun _ q _ z => AX_mono hS.1 q.1 z)) hS1)
theorem callC_ip {f : Int32} (hr : va_Run p l e R s m args below meth c H locs cells slots 0 0 (F0 m pc ls st0) rest (va_Qi (fun r w => (r, w) = (f, u)) (BC D h k (AX 5 h H.size)) (AX 5 h H.size) a) (AX 5 h H.size)) (hS : va_S (AX 5 h s.heap.size) s.heap H locs)
    (kk : ∀ (r : Int32) (H1 : Heap) (locs1 : List Loc), r = f → va_P D vwCl (wsC h k u) H1 → va_D (AX 5 h s.heap.size) (wsC h k u) → va_S (AX 5 h s.heap.size) s.heap H1 locs1 → W p l e R s m args below meth c H1 locs1 cells slots Q (F0 m (pc + 3) ls (.int r :: rest))) : W p l e R s m args below meth c H locs cells slots Q (F0 m pc ls st0) :=
  callC_i (F := (f, u)) hr hS (fun r w H1 locs1 h1 h2 hP hD hS1 => by subst h2; exact kk r H1 locs1 h1 hP hD hS1)
theorem callC_v {F : StC} (hr : va_Run p l e R s m args below meth c H locs cells slots 0 0 (F0 m pc ls st0) rest (va_Qv (fun w => w = F) (BC D h k (AX 5 h H.size)) (AX 5 h H.size) a) (AX 5 h H.size)) (hS : va_S (AX 5 h s.heap.size) s.heap H locs)
    (kk : ∀ (w : StC) (H1 : Heap) (locs1 : List Loc), w = F → va_P D vwCl (wsC h k w) H1 → va_D (AX 5 h s.heap.size) (wsC h k w) → va_S (AX 5 h s.heap.size) s.heap H1 locs1 → W p l e R s m args below meth c H1 locs1 cells slots Q (F0 m (pc + 3) ls rest)) : W p l e R s m args below meth c H locs cells slots Q (F0 m pc ls st0) :=
  va_callv hr hS (fun q _ z => AX_mono hS.1 q z) (AX_mono hS.1) (fun w t H1 locs1 ht _ hw hB _ _ hS1 => kk w H1 locs1 hw (by rw [← ht]; exact hB.1) (hB.2.weaken (fun _ q _ z => AX_mono hS.1 q.1 z)) hS1)
theorem retC_i {F : Int32 × StC} {v : Int32} (hx : p.tables.exec = Jvm.exec) (hb : c.code = cc) (hr : meth.sig.returnType = some .int) (hlocks : meth.locks = false) (hq : F = (v, u)) (hP : va_P D vwCl (wsC h k u) H) (hD : va_D (AX 5 h s.heap.size) (wsC h k u)) (hS : va_S (AX 5 h s.heap.size) s.heap H locs) (hd : decode cc pc = .ok (.ireturn, 1)) : W p l e R s m args below meth c H locs cells slots (MQ below (va_Qi (fun r u => (r, u) = F) (BC D h k (AX 5 h s.heap.size)) (AX 5 h s.heap.size)) args s cells slots (AX 5 h s.heap.size)) (F0 m pc ls [.int v]) :=
  W.iret hx hb hr (fun t ht _ => ⟨⟨v, u, rfl, hq.symm, by rw [ht]; exact hP, hD⟩, hS.F ht⟩) hS.2.2 hd hlocks
theorem retC_z {F : Int32 × StC} {v : Int32} (hx : p.tables.exec = Jvm.exec) (hb : c.code = cc) (hr : meth.sig.returnType = some .boolean) (hlocks : meth.locks = false) (hn : narrow .boolean (.int v) = .int v) (hq : F = (v, u)) (hP : va_P D vwCl (wsC h k u) H) (hD : va_D (AX 5 h s.heap.size) (wsC h k u)) (hS : va_S (AX 5 h s.heap.size) s.heap H locs) (hd : decode cc pc = .ok (.ireturn, 1)) : W p l e R s m args below meth c H locs cells slots (MQ below (va_Qi (fun r u => (r, u) = F) (BC D h k (AX 5 h s.heap.size)) (AX 5 h s.heap.size)) args s cells slots (AX 5 h s.heap.size)) (F0 m pc ls [.int v]) :=
  W.zret hx hb hr hn (fun t ht _ => ⟨⟨v, u, rfl, hq.symm, by rw [ht]; exact hP, hD⟩, hS.F ht⟩) hS.2.2 hd hlocks
theorem retC_ip {f v : Int32} (hx : p.tables.exec = Jvm.exec) (hb : c.code = cc) (hr : meth.sig.returnType = some .int) (hlocks : meth.locks = false) (hq : f = v) (hP : va_P D vwCl (wsC h k u) H) (hD : va_D (AX 5 h s.heap.size) (wsC h k u)) (hS : va_S (AX 5 h s.heap.size) s.heap H locs) (hd : decode cc pc = .ok (.ireturn, 1)) : W p l e R s m args below meth c H locs cells slots (MQ below (va_Qi (fun r w => (r, w) = (f, u)) (BC D h k (AX 5 h s.heap.size)) (AX 5 h s.heap.size)) args s cells slots (AX 5 h s.heap.size)) (F0 m pc ls [.int v]) := retC_i hx hb hr hlocks (by rw [hq]) hP hD hS hd
theorem retC_zp {f v : Int32} (hx : p.tables.exec = Jvm.exec) (hb : c.code = cc) (hr : meth.sig.returnType = some .boolean) (hlocks : meth.locks = false) (hn : narrow .boolean (.int v) = .int v) (hq : f = v) (hP : va_P D vwCl (wsC h k u) H) (hD : va_D (AX 5 h s.heap.size) (wsC h k u)) (hS : va_S (AX 5 h s.heap.size) s.heap H locs) (hd : decode cc pc = .ok (.ireturn, 1)) : W p l e R s m args below meth c H locs cells slots (MQ below (va_Qi (fun r w => (r, w) = (f, u)) (BC D h k (AX 5 h s.heap.size)) (AX 5 h s.heap.size)) args s cells slots (AX 5 h s.heap.size)) (F0 m pc ls [.int v]) := retC_z hx hb hr hlocks hn (by rw [hq]) hP hD hS hd
theorem retC_v {F : StC} (hx : p.tables.exec = Jvm.exec) (hb : c.code = cc) (hr : meth.sig.returnType = none) (hlocks : meth.locks = false) (hq : F = u) (hP : va_P D vwCl (wsC h k u) H) (hD : va_D (AX 5 h s.heap.size) (wsC h k u)) (hS : va_S (AX 5 h s.heap.size) s.heap H locs) (hd : decode cc pc = .ok (.return_, 1)) : W p l e R s m args below meth c H locs cells slots (MQ below (va_Qv (fun w => w = F) (BC D h k (AX 5 h s.heap.size)) (AX 5 h s.heap.size)) args s cells slots (AX 5 h s.heap.size)) (F0 m pc ls []) :=
  W.vret hx hb hr (fun t ht _ => ⟨⟨u, rfl, hq.symm, by rw [ht]; exact hP, hD⟩, hS.F ht⟩) hS.2.2 hd hlocks
theorem callC_rp {f : Nat} (hr : va_Run p l e R s m args below meth c H locs cells slots 0 0 (F0 m pc ls st0) rest (va_Qr (fun w : Nat × StC => w = (f, u)) (fun w b t => b = g w.1 ∧ BC D h k (AX 5 h H.size) w.2 t) (AX 5 h H.size) a) (AX 5 h H.size)) (hS : va_S (AX 5 h s.heap.size) s.heap H locs)
    (kk : ∀ (r : Nat) (H1 : Heap) (locs1 : List Loc), r = f → va_P D vwCl (wsC h k u) H1 → va_D (AX 5 h s.heap.size) (wsC h k u) → va_S (AX 5 h s.heap.size) s.heap H1 locs1 → W p l e R s m args below meth c H1 locs1 cells slots Q (F0 m (pc + 3) ls (.ref (g r) :: rest))) : W p l e R s m args below meth c H locs cells slots Q (F0 m pc ls st0) :=
  va_callr hr hS (fun q _ z => AX_mono hS.1 q z) (AX_mono hS.1) (fun w ra t H1 locs1 ht _ hw hB _ _ hS1 => by
    subst hw
    obtain ⟨rfl, hB⟩ := hB
    exact kk f H1 locs1 rfl (by rw [← ht]; exact hB.1) (hB.2.weaken (fun _ q _ z => AX_mono hS.1 q.1 z)) hS1)
theorem retC_rp {f v : Nat} (hx : p.tables.exec = Jvm.exec) (hb : c.code = cc) (hr : meth.sig.returnType = some (.array .int)) (hlocks : meth.locks = false) (hq : f = v) (hP : va_P D vwCl (wsC h k u) H) (hD : va_D (AX 5 h s.heap.size) (wsC h k u)) (hS : va_S (AX 5 h s.heap.size) s.heap H locs) (hd : decode cc pc = .ok (.areturn, 1)) : W p l e R s m args below meth c H locs cells slots (MQ below (va_Qr (fun w : Nat × StC => w = (f, u)) (fun w b t => b = g w.1 ∧ BC D h k (AX 5 h s.heap.size) w.2 t) (AX 5 h s.heap.size)) args s cells slots (AX 5 h s.heap.size)) (F0 m pc ls [.ref (g v)]) :=
  W.aret hx hb hr (Or.inr ⟨_, rfl⟩) (Or.inr ⟨_, rfl⟩) (fun t ht _ => ⟨⟨(f, u), g v, rfl, rfl, by rw [hq], by rw [ht]; exact hP, hD⟩, hS.F ht⟩) hS.2.2 hd hlocks
end KC
theorem ownR {h : Nat → Nat} {k : Nat → ClassId} {u : StR} {sz : Nat} : ∀ (i : Nat) (q : Nat × va_E), (wsR h k u)[i]? = some q → AX 4 h sz q.1 := by
  intro i q hq
  match i, hq with
  | 0, hq => cases hq; exact Or.inl ⟨0, by decide, rfl⟩
  | 1, hq => cases hq; exact Or.inl ⟨1, by decide, rfl⟩
  | 2, hq => cases hq; exact Or.inl ⟨2, by decide, rfl⟩
  | 3, hq => cases hq; exact Or.inl ⟨3, by decide, rfl⟩
  | i + 4, hq => simp [wsR] at hq
def PcR (D : va_G) (h : Nat → Nat) (k : Nat → ClassId) (av : List Value) (sz : Nat) (u : StR) : Array Value → State → Prop := va_Pc av (fun U => U.heap.size = sz ∧ va_P D vwCl (wsR h k u) U.heap ∧ ctR D k (AX 4 h sz) U ∧ va_D (AX 4 h sz) (wsR h k u))
def BR (D : va_G) (h : Nat → Nat) (k : Nat → ClassId) (A : Nat → Prop) (u : StR) (t : State) : Prop := va_P D vwCl (wsR h k u) t.heap ∧ va_D A (wsR h k u)
theorem blindR {D : va_G} {h : Nat → Nat} {k : Nat → ClassId} {av : List Value} {sz : Nat} {u : StR} : FrameBlind (PcR D h k av sz u) := by
  intro a U gg mk q
  obtain ⟨q0, q1, q2, q3, q4⟩ := q
  exact ⟨q0, q1, q2, ctR_same (u := U) (U := U.calling gg mk a) rfl rfl q3, q4⟩
section KR
variable {p : Program} {l : Launch} {e : Env} {R : Room} {s : State} {m : MethodId} {args : Array Value} {below : List Frame} {meth : Method} {c : Code} {H : Heap} {locs : List Loc} {cells slots : Nat} {Q : State → Prop}
variable {D : va_G} {h : Nat → Nat} {k : Nat → ClassId} {u : StR} {As rest st0 : List Value} {pc : Nat} {ls : Array Slot} {a : Array Value} {cc : ByteArray}
theorem preR_V {C : String} {T : u_T} {N ci q0 b : Nat} {fs : List Value} (ct : ctR D k (AX 4 h s.heap.size) s) (hP : va_P D vwCl (wsR h k u) H) (hD : va_D (AX 4 h s.heap.size) (wsR h k u)) (hS : va_S (AX 4 h s.heap.size) s.heap H locs) (hc : vwCl[ci]? = some (C, T, N)) (he : (wsR h k u)[q0]? = some (b, .inr (ci, fs))) : PreV s H C b (PcR D h k (Value.ref b :: As) H.size u) As :=
  ⟨blindR, va_recv ct.1 hP hc he, fun U hU hW => ⟨rfl, by rw [hU], by rw [hU]; exact hP, ctR_moved hW hU hS (AX_mono hS.1) ct, ⟨hD.1, fun i q hq => by
    have h1 := hP i q hq
    have h2 := h1.lt
    rcases hD.2 i q hq with z | z
    · exact Or.inl z
    · exact ownR i q hq⟩⟩⟩
theorem preR_S (ct : ctR D k (AX 4 h s.heap.size) s) (hP : va_P D vwCl (wsR h k u) H) (hD : va_D (AX 4 h s.heap.size) (wsR h k u)) (hS : va_S (AX 4 h s.heap.size) s.heap H locs) : PreS s H (PcR D h k As H.size u) As :=
  ⟨blindR, fun U hU hW => ⟨rfl, by rw [hU], by rw [hU]; exact hP, ctR_moved hW hU hS (AX_mono hS.1) ct, ⟨hD.1, fun i q hq => ownR i q hq⟩⟩⟩
theorem callR_i {F : Int32 × StR} (hr : va_Run p l e R s m args below meth c H locs cells slots 0 0 (F0 m pc ls st0) rest (va_Qi (fun r u => (r, u) = F) (BR D h k (AX 4 h H.size)) (AX 4 h H.size) a) (AX 4 h H.size)) (hS : va_S (AX 4 h s.heap.size) s.heap H locs)
    (kk : ∀ (r : Int32) (u : StR) (H1 : Heap) (locs1 : List Loc), r = F.1 → u = F.2 → va_P D vwCl (wsR h k u) H1 → va_D (AX 4 h s.heap.size) (wsR h k u) → va_S (AX 4 h s.heap.size) s.heap H1 locs1 → W p l e R s m args below meth c H1 locs1 cells slots Q (F0 m (pc + 3) ls (.int r :: rest))) : W p l e R s m args below meth c H locs cells slots Q (F0 m pc ls st0) :=
  va_calli hr hS (fun q _ z => AX_mono hS.1 q z) (AX_mono hS.1) (fun r u t H1 locs1 ht _ hw hB _ _ hS1 => kk r u H1 locs1 (by rw [← hw]) (by rw [← hw]) (by rw [← ht]; exact hB.1) (hB.2.weaken (fun _ q _ z => AX_mono hS.1 q.1 z)) hS1)
theorem callR_ip {f : Int32} (hr : va_Run p l e R s m args below meth c H locs cells slots 0 0 (F0 m pc ls st0) rest (va_Qi (fun r w => (r, w) = (f, u)) (BR D h k (AX 4 h H.size)) (AX 4 h H.size) a) (AX 4 h H.size)) (hS : va_S (AX 4 h s.heap.size) s.heap H locs)
    (kk : ∀ (r : Int32) (H1 : Heap) (locs1 : List Loc), r = f → va_P D vwCl (wsR h k u) H1 → va_D (AX 4 h s.heap.size) (wsR h k u) → va_S (AX 4 h s.heap.size) s.heap H1 locs1 → W p l e R s m args below meth c H1 locs1 cells slots Q (F0 m (pc + 3) ls (.int r :: rest))) : W p l e R s m args below meth c H locs cells slots Q (F0 m pc ls st0) :=
  callR_i (F := (f, u)) hr hS (fun r w H1 locs1 h1 h2 hP hD hS1 => by subst h2; exact kk r H1 locs1 h1 hP hD hS1)
theorem callR_v {F : StR} (hr : va_Run p l e R s m args below meth c H locs cells slots 0 0 (F0 m pc ls st0) rest (va_Qv (fun w => w = F) (BR D h k (AX 4 h H.size)) (AX 4 h H.size) a) (AX 4 h H.size)) (hS : va_S (AX 4 h s.heap.size) s.heap H locs)
    (kk : ∀ (w : StR) (H1 : Heap) (locs1 : List Loc), w = F → va_P D vwCl (wsR h k w) H1 → va_D (AX 4 h s.heap.size) (wsR h k w) → va_S (AX 4 h s.heap.size) s.heap H1 locs1 → W p l e R s m args below meth c H1 locs1 cells slots Q (F0 m (pc + 3) ls rest)) : W p l e R s m args below meth c H locs cells slots Q (F0 m pc ls st0) :=
  va_callv hr hS (fun q _ z => AX_mono hS.1 q z) (AX_mono hS.1) (fun w t H1 locs1 ht _ hw hB _ _ hS1 => kk w H1 locs1 hw (by rw [← ht]; exact hB.1) (hB.2.weaken (fun _ q _ z => AX_mono hS.1 q.1 z)) hS1)
theorem retR_i {F : Int32 × StR} {v : Int32} (hx : p.tables.exec = Jvm.exec) (hb : c.code = cc) (hr : meth.sig.returnType = some .int) (hlocks : meth.locks = false) (hq : F = (v, u)) (hP : va_P D vwCl (wsR h k u) H) (hD : va_D (AX 4 h s.heap.size) (wsR h k u)) (hS : va_S (AX 4 h s.heap.size) s.heap H locs) (hd : decode cc pc = .ok (.ireturn, 1)) : W p l e R s m args below meth c H locs cells slots (MQ below (va_Qi (fun r u => (r, u) = F) (BR D h k (AX 4 h s.heap.size)) (AX 4 h s.heap.size)) args s cells slots (AX 4 h s.heap.size)) (F0 m pc ls [.int v]) :=
  W.iret hx hb hr (fun t ht _ => ⟨⟨v, u, rfl, hq.symm, by rw [ht]; exact hP, hD⟩, hS.F ht⟩) hS.2.2 hd hlocks
theorem retR_z {F : Int32 × StR} {v : Int32} (hx : p.tables.exec = Jvm.exec) (hb : c.code = cc) (hr : meth.sig.returnType = some .boolean) (hlocks : meth.locks = false) (hn : narrow .boolean (.int v) = .int v) (hq : F = (v, u)) (hP : va_P D vwCl (wsR h k u) H) (hD : va_D (AX 4 h s.heap.size) (wsR h k u)) (hS : va_S (AX 4 h s.heap.size) s.heap H locs) (hd : decode cc pc = .ok (.ireturn, 1)) : W p l e R s m args below meth c H locs cells slots (MQ below (va_Qi (fun r u => (r, u) = F) (BR D h k (AX 4 h s.heap.size)) (AX 4 h s.heap.size)) args s cells slots (AX 4 h s.heap.size)) (F0 m pc ls [.int v]) :=
  W.zret hx hb hr hn (fun t ht _ => ⟨⟨v, u, rfl, hq.symm, by rw [ht]; exact hP, hD⟩, hS.F ht⟩) hS.2.2 hd hlocks
theorem retR_ip {f v : Int32} (hx : p.tables.exec = Jvm.exec) (hb : c.code = cc) (hr : meth.sig.returnType = some .int) (hlocks : meth.locks = false) (hq : f = v) (hP : va_P D vwCl (wsR h k u) H) (hD : va_D (AX 4 h s.heap.size) (wsR h k u)) (hS : va_S (AX 4 h s.heap.size) s.heap H locs) (hd : decode cc pc = .ok (.ireturn, 1)) : W p l e R s m args below meth c H locs cells slots (MQ below (va_Qi (fun r w => (r, w) = (f, u)) (BR D h k (AX 4 h s.heap.size)) (AX 4 h s.heap.size)) args s cells slots (AX 4 h s.heap.size)) (F0 m pc ls [.int v]) := retR_i hx hb hr hlocks (by rw [hq]) hP hD hS hd
theorem retR_zp {f v : Int32} (hx : p.tables.exec = Jvm.exec) (hb : c.code = cc) (hr : meth.sig.returnType = some .boolean) (hlocks : meth.locks = false) (hn : narrow .boolean (.int v) = .int v) (hq : f = v) (hP : va_P D vwCl (wsR h k u) H) (hD : va_D (AX 4 h s.heap.size) (wsR h k u)) (hS : va_S (AX 4 h s.heap.size) s.heap H locs) (hd : decode cc pc = .ok (.ireturn, 1)) : W p l e R s m args below meth c H locs cells slots (MQ below (va_Qi (fun r w => (r, w) = (f, u)) (BR D h k (AX 4 h s.heap.size)) (AX 4 h s.heap.size)) args s cells slots (AX 4 h s.heap.size)) (F0 m pc ls [.int v]) := retR_z hx hb hr hlocks hn (by rw [hq]) hP hD hS hd
theorem retR_v {F : StR} (hx : p.tables.exec = Jvm.exec) (hb : c.code = cc) (hr : meth.sig.returnType = none) (hlocks : meth.locks = false) (hq : F = u) (hP : va_P D vwCl (wsR h k u) H) (hD : va_D (AX 4 h s.heap.size) (wsR h k u)) (hS : va_S (AX 4 h s.heap.size) s.heap H locs) (hd : decode cc pc = .ok (.return_, 1)) : W p l e R s m args below meth c H locs cells slots (MQ below (va_Qv (fun w => w = F) (BR D h k (AX 4 h s.heap.size)) (AX 4 h s.heap.size)) args s cells slots (AX 4 h s.heap.size)) (F0 m pc ls []) :=
  W.vret hx hb hr (fun t ht _ => ⟨⟨u, rfl, hq.symm, by rw [ht]; exact hP, hD⟩, hS.F ht⟩) hS.2.2 hd hlocks
end KR
end
section
/-! the methods of the class (X0, X1, X2) and of the reference (X3) as functions -/
def f_X0_isMultiplier (a1 : Int32) : Int32 :=
  if (a1 &&& (65520 : Int32)) = 304 then
    1
  else
    0
def f_X0_slotOf (a1 : Int32) : Int32 :=
  (a1 >>> ((1 : Int32) &&& 31)) &&& (7 : Int32)
def f_X0_cellOf (a1 : Int32) : Int32 :=
  (a1 &&& (65535 : Int32)) >>> ((3 : Int32) &&& 31)
def f_X1_wordAtSlot (σ : StC) (a1 : Int32) : Int32 :=
  if a1 = 4 then
    σ.2.2.2.2.2.1
  else
    if a1 = 5 then
      σ.2.2.2.2.2.2.1
    else
      if a1 = 6 then
        σ.2.2.2.2.2.2.2.1
      else
        if a1 = 7 then
          σ.2.2.2.2.2.2.2.2.1
        else
          σ.2.2.2.2.1
def f_X1_placeWordAtSlot (σ : StC) (a1 : Int32) (a2 : Int32) : StC :=
  if a1 = 4 then
    (σ.1, σ.2.1, σ.2.2.1, σ.2.2.2.1, σ.2.2.2.2.1, a2, σ.2.2.2.2.2.2.1, σ.2.2.2.2.2.2.2.1, σ.2.2.2.2.2.2.2.2.1, σ.2.2.2.2.2.2.2.2.2)
  else
    if a1 = 5 then
      (σ.1, σ.2.1, σ.2.2.1, σ.2.2.2.1, σ.2.2.2.2.1, σ.2.2.2.2.2.1, a2, σ.2.2.2.2.2.2.2.1, σ.2.2.2.2.2.2.2.2.1, σ.2.2.2.2.2.2.2.2.2)
    else
      if a1 = 6 then
        (σ.1, σ.2.1, σ.2.2.1, σ.2.2.2.1, σ.2.2.2.2.1, σ.2.2.2.2.2.1, σ.2.2.2.2.2.2.1, a2, σ.2.2.2.2.2.2.2.2.1, σ.2.2.2.2.2.2.2.2.2)
      else
        if a1 = 7 then
          (σ.1, σ.2.1, σ.2.2.1, σ.2.2.2.1, σ.2.2.2.2.1, σ.2.2.2.2.2.1, σ.2.2.2.2.2.2.1, σ.2.2.2.2.2.2.2.1, a2, σ.2.2.2.2.2.2.2.2.2)
        else
          (σ.1, σ.2.1, σ.2.2.1, σ.2.2.2.1, a2, σ.2.2.2.2.2.1, σ.2.2.2.2.2.2.1, σ.2.2.2.2.2.2.2.1, σ.2.2.2.2.2.2.2.2.1, σ.2.2.2.2.2.2.2.2.2)
def f_X1_multiply (σ : StC) : StC :=
  let v2 : Int32 := if (σ.2.2.2.2.2.2.2.2.2 &&& (1 : Int32)) = 0 then
    0
  else
    1
  let v4 : Int32 := if (σ.2.2.2.2.2.2.2.2.2 &&& (2 : Int32)) = 0 then
    0
  else
    1
  let v6 : Int64 := if v2 = 0 then
    σ.2.2.2.2.1.toInt64 * σ.2.2.2.2.2.1.toInt64
  else
    σ.2.2.2.2.1.toInt16.toInt32.toInt64 * σ.2.2.2.2.2.1.toInt16.toInt32.toInt64
  let v8 : Int64 := if v4 = 0 then
    0
  else
    (σ.2.2.2.2.2.2.2.1.toInt64 <<< ((16 : Int32).toInt64 &&& 63)) ||| σ.2.2.2.2.2.2.1.toInt64
  let x9 : Int64 := v8 + v6
  let x10 : Int32 := ((x9 >>> ((16 : Int32).toInt64 &&& 63)).toInt32) &&& (65535 : Int32)
  let x11 : Int32 := x9.toInt32 &&& (65535 : Int32)
  if v2 = 0 then
    let v14 : Int32 := if (lg_cmp x9 4294967295) ≤ 0 then
      0
    else
      1
    (σ.1, σ.2.1, σ.2.2.1, σ.2.2.2.1, σ.2.2.2.2.1, σ.2.2.2.2.2.1, x11, x10, v14, σ.2.2.2.2.2.2.2.2.2)
  else
    let v16 : Int32 := if (x10 &&& (32768 : Int32)) = 0 then
      0
    else
      65535
    (σ.1, σ.2.1, σ.2.2.1, σ.2.2.2.1, σ.2.2.2.2.1, σ.2.2.2.2.2.1, x11, x10, v16, σ.2.2.2.2.2.2.2.2.2)
def f_X1_write (σ : StC) (a1 : Int32) (a2 : Int32) : StC :=
  if a1 = 7 then
    σ
  else
    let σ2 : StC := f_X1_placeWordAtSlot σ a1 a2
    if 4 ≤ a1 then
      if a1 = 4 then
        let σ5 : StC := f_X1_multiply σ2
        σ5
      else
        σ2
    else
      (σ2.1, σ2.2.1, σ2.2.2.1, σ2.2.2.2.1, σ2.2.2.2.2.1, σ2.2.2.2.2.2.1, σ2.2.2.2.2.2.2.1, σ2.2.2.2.2.2.2.2.1, σ2.2.2.2.2.2.2.2.2.1, a1)
def f_X1_clear (σ : StC) : StC :=
  (σ.1, σ.2.1, σ.2.2.1, σ.2.2.2.1, 0, 0, 0, 0, 0, 0)
def f_X0_wordAt (σ : StC) (a1 : Int32) : Int32 :=
  let x1 : Int32 := f_X0_isMultiplier a1
  if x1 = 0 then
    let x3 : Int32 := f_X0_cellOf a1
    ((((σ.2.2.2.1 x3.toNatClampNeg).toUInt64 >>> (((a1 &&& (6 : Int32)) * (8 : Int32)).toInt64.toUInt64 &&& Int64.toUInt64 63)).toInt64).toInt32) &&& (65535 : Int32)
  else
    let x4 : Int32 := f_X0_slotOf a1
    let x5 : Int32 := f_X1_wordAtSlot σ x4
    x5
def f_X0_byteAt (σ : StC) (a1 : Int32) : Int32 :=
  let x1 : Int32 := f_X0_wordAt σ a1
  if (a1 &&& (1 : Int32)) = 0 then
    x1 &&& (255 : Int32)
  else
    x1 >>> ((8 : Int32) &&& 31)
def f_X0_placeWord (σ : StC) (a1 : Int32) (a2 : Int32) : StC :=
  let x1 : Int32 := (a1 &&& (6 : Int32)) * (8 : Int32)
  let x2 : Int32 := f_X0_cellOf a1
  let x3 : Int64 := ((σ.2.2.2.1 x2.toNatClampNeg) &&& (((65535 : Int64) <<< (x1.toInt64 &&& 63)) ^^^ ((-1) : Int64))) ||| (a2.toInt64 <<< (x1.toInt64 &&& 63))
  (σ.1, σ.2.1, σ.2.2.1, vp_updL σ.2.2.2.1 x2.toNatClampNeg x3, σ.2.2.2.2.1, σ.2.2.2.2.2.1, σ.2.2.2.2.2.2.1, σ.2.2.2.2.2.2.2.1, σ.2.2.2.2.2.2.2.2.1, σ.2.2.2.2.2.2.2.2.2)
def f_X0_writeWord (σ : StC) (a1 : Int32) (a2 : Int32) : StC :=
  let x1 : Int32 := f_X0_isMultiplier a1
  if x1 = 0 then
    let σ3 : StC := f_X0_placeWord σ a1 a2
    σ3
  else
    let x4 : Int32 := f_X0_slotOf a1
    let σ5 : StC := f_X1_write σ x4 a2
    σ5
def f_X0_placeByte (σ : StC) (a1 : Int32) (a2 : Int32) : StC :=
  let x1 : Int32 := f_X0_wordAt σ a1
  let v3 : Int32 := if (a1 &&& (1 : Int32)) = 0 then
    (x1 &&& (65280 : Int32)) ||| a2
  else
    (x1 &&& (255 : Int32)) ||| (a2 <<< ((8 : Int32) &&& 31))
  let x4 : Int32 := f_X0_isMultiplier a1
  if x4 = 0 then
    let σ6 : StC := f_X0_placeWord σ a1 v3
    σ6
  else
    let x7 : Int32 := f_X0_slotOf a1
    let σ8 : StC := f_X1_placeWordAtSlot σ x7 v3
    σ8
def f_X0_writeByte (σ : StC) (a1 : Int32) (a2 : Int32) : StC :=
  let x1 : Int32 := f_X0_isMultiplier a1
  if x1 = 0 then
    let σ6 : StC := f_X0_placeByte σ a1 a2
    σ6
  else
    if (a1 &&& (1 : Int32)) = 0 then
      let x4 : Int32 := f_X0_slotOf a1
      let σ5 : StC := f_X1_write σ x4 a2
      σ5
    else
      σ
def f_X2_setRegister (σ : StC) (a1 : Int32) (a2 : Int32) : StC :=
  if a1 = 3 then
    σ
  else
    let v3 : Int32 := if a1 = 0 then
      65534
    else
      65535
    let x4 : Int32 := a2 &&& v3
    (upd σ.1 ((a1 &&& (15 : Int32)).toNatClampNeg) x4, σ.2.1, σ.2.2.1, σ.2.2.2.1, σ.2.2.2.2.1, σ.2.2.2.2.2.1, σ.2.2.2.2.2.2.1, σ.2.2.2.2.2.2.2.1, σ.2.2.2.2.2.2.2.2.1, σ.2.2.2.2.2.2.2.2.2)
def f_X2_addToRegister (σ : StC) (a1 : Int32) (a2 : Int32) : StC :=
  let σ1 : StC := f_X2_setRegister σ a1 ((σ.1 (a1 &&& (15 : Int32)).toNatClampNeg) + a2)
  σ1
def f_X2_spend (σ : StC) (a1 : Int32) : StC :=
  let x1 : Int32 := (σ.2.2.1 + a1) &&& (1073741823 : Int32)
  (σ.1, σ.2.1, x1, σ.2.2.2.1, σ.2.2.2.2.1, σ.2.2.2.2.2.1, σ.2.2.2.2.2.2.1, σ.2.2.2.2.2.2.2.1, σ.2.2.2.2.2.2.2.2.1, σ.2.2.2.2.2.2.2.2.2)
def f_X2_spendByKind (σ : StC) (a1 : Nat) (a2 : Int32) : StC :=
  let σ1 : StC := f_X2_spend σ (tabC a1 (a2 &&& (3 : Int32)).toNatClampNeg)
  σ1
def f_X2_isHighestSet (a1 : Int32) (a2 : Int32) : Int32 :=
  if (a1 &&& ((a2 + (1 : Int32)) >>> ((1 : Int32) &&& 31))) = 0 then
    0
  else
    1
def f_X2_isSet (σ : StC) (a1 : Int32) : Int32 :=
  if ((σ.1 (2 : Int32).toNatClampNeg) &&& a1) = 0 then
    0
  else
    1
def f_X2_setFlags (σ : StC) (a1 : Int32) (a2 : Int32) (a3 : Int32) (a4 : Int32) : StC :=
  let v2 : Int32 := if a2 = 0 then
    0
  else
    1
  let v4 : Int32 := if a1 = 0 then
    let x5 : Int32 := v2 ||| (2 : Int32)
    x5
  else
    v2
  let x5 : Int32 := f_X2_isHighestSet a1 a4
  let v7 : Int32 := if x5 = 0 then
    v4
  else
    let x8 : Int32 := v4 ||| (4 : Int32)
    x8
  let v9 : Int32 := if a3 = 0 then
    v7
  else
    let x10 : Int32 := v7 ||| (256 : Int32)
    x10
  let σ10 : StC := f_X2_setRegister σ 2 (((σ.1 (2 : Int32).toNatClampNeg) &&& ((-264) : Int32)) ||| v9)
  σ10
def f_X2_logical (σ : StC) (a1 : Int32) (a2 : Int32) (a3 : Int32) : Int32 × StC :=
  let v2 : Int32 := if a1 = 0 then
    0
  else
    1
  let σ3 : StC := f_X2_setFlags σ a1 v2 a2 a3
  (a1, σ3)
def f_X2_shifted (σ : StC) (a1 : Int32) (a2 : Int32) (a3 : Int32) : Int32 × StC :=
  let x1 : Int32 := (a1 >>> ((1 : Int32) &&& 31)) ||| a2
  let v3 : Int32 := if (a1 &&& (1 : Int32)) = 0 then
    0
  else
    1
  let σ4 : StC := f_X2_setFlags σ x1 v3 0 a3
  (x1, σ4)
def f_X2_add (σ : StC) (a1 : Int32) (a2 : Int32) (a3 : Int32) (a4 : Int32) : Int32 × StC :=
  let x1 : Int32 := (a1 + a2) + a3
  let x2 : Int32 := x1 &&& a4
  let x3 : Int32 := f_X2_isHighestSet (((a1 ^^^ a2) ^^^ ((-1) : Int32)) &&& (a1 ^^^ x2)) a4
  let v5 : Int32 := if x1 ≤ a4 then
    0
  else
    1
  let σ6 : StC := f_X2_setFlags σ x2 v5 x3 a4
  (x2, σ6)
def f_X2_push (σ : StC) (a1 : Int32) (a2 : Int32) : StC :=
  let σ1 : StC := f_X2_addToRegister σ 1 (-2)
  if a2 = 0 then
    let σ3 : StC := f_X0_writeWord σ1 (σ1.1 (1 : Int32).toNatClampNeg) a1
    σ3
  else
    let σ4 : StC := f_X0_writeByte σ1 (σ1.1 (1 : Int32).toNatClampNeg) a1
    σ4
def f_X2_pop (σ : StC) : Int32 × StC :=
  let x1 : Int32 := f_X0_wordAt σ (σ.1 (1 : Int32).toNatClampNeg)
  let σ2 : StC := f_X2_addToRegister σ 1 2
  (x1, σ2)
def f_X2_highestPendingLine (σ : StC) : Int32 :=
  let v4 : Int32 := if (σ.2.1 &&& (8192 : Int32)) = 0 then
    if (σ.2.1 &&& (4096 : Int32)) = 0 then
      if (σ.2.1 &&& (2048 : Int32)) = 0 then
        if (σ.2.1 &&& (1024 : Int32)) = 0 then
          if (σ.2.1 &&& (512 : Int32)) = 0 then
            if (σ.2.1 &&& (256 : Int32)) = 0 then
              if (σ.2.1 &&& (128 : Int32)) = 0 then
                if (σ.2.1 &&& (64 : Int32)) = 0 then
                  if (σ.2.1 &&& (32 : Int32)) = 0 then
                    if (σ.2.1 &&& (16 : Int32)) = 0 then
                      if (σ.2.1 &&& (8 : Int32)) = 0 then
                        if (σ.2.1 &&& (4 : Int32)) = 0 then
                          if (σ.2.1 &&& (2 : Int32)) = 0 then
                            0
                          else
                            1
                        else
                          2
                      else
                        3
                    else
                      4
                  else
                    5
                else
                  6
              else
                7
            else
              8
          else
            9
        else
          10
      else
        11
    else
      12
  else
    13
  v4
def f_X2_interrupt (σ : StC) : StC :=
  let x1 : Int32 := f_X2_highestPendingLine σ
  let σ2 : StC := f_X2_push σ (σ.1 (0 : Int32).toNatClampNeg) 0
  let σ3 : StC := f_X2_push σ2 (σ2.1 (2 : Int32).toNatClampNeg) 0
  let x4 : Int32 := σ3.2.1 &&& (((1 : Int32) <<< (x1 &&& 31)) ^^^ ((-1) : Int32))
  let σ5 : StC := f_X2_setRegister (σ3.1, x4, σ3.2.2.1, σ3.2.2.2.1, σ3.2.2.2.2.1, σ3.2.2.2.2.2.1, σ3.2.2.2.2.2.2.1, σ3.2.2.2.2.2.2.2.1, σ3.2.2.2.2.2.2.2.2.1, σ3.2.2.2.2.2.2.2.2.2) 2 ((σ3.1 (2 : Int32).toNatClampNeg) &&& (64 : Int32))
  let x6 : Int32 := f_X0_wordAt σ5 ((65504 : Int32) + ((2 : Int32) * x1))
  let σ7 : StC := f_X2_setRegister σ5 0 x6
  let σ8 : StC := f_X2_spend σ7 6
  σ8
def f_X2_returnFromInterrupt (σ : StC) : StC :=
  let x1 : Int32 := (f_X2_pop σ).1
  let σ2 : StC := (f_X2_pop σ).2
  let σ3 : StC := f_X2_setRegister σ2 2 x1
  let x4 : Int32 := (f_X2_pop σ3).1
  let σ5 : StC := (f_X2_pop σ3).2
  let σ6 : StC := f_X2_setRegister σ5 0 x4
  let σ7 : StC := f_X2_spend σ6 5
  σ7
def f_X2_isUnassigned (a1 : Int32) : Int32 :=
  if a1 < 8192 then
    if a1 < 4096 then
      1
    else
      if a1 ≤ 4864 then
        let x4 : Int32 := (a1 >>> ((7 : Int32) &&& 31)) &&& (7 : Int32)
        let v6 : Int32 := if x4 = 1 then
          1
        else
          if x4 = 3 then
            1
          else
            if x4 = 5 then
              1
            else
              0
        if v6 = 0 then
          0
        else
          if (a1 &&& (64 : Int32)) = 0 then
            0
          else
            1
      else
        1
  else
    0
def f_X2_isJumpTaken (σ : StC) (a1 : Int32) : Int32 :=
  let x1 : Int32 := f_X2_isSet σ 4
  let x2 : Int32 := f_X2_isSet σ 256
  let v4 : Int32 := if x1 = x2 then
    1
  else
    0
  if a1 = 0 then
    let x6 : Int32 := f_X2_isSet σ 2
    if x6 = 0 then
      1
    else
      0
  else
    if a1 = 1 then
      let x9 : Int32 := f_X2_isSet σ 2
      x9
    else
      if a1 = 2 then
        let x11 : Int32 := f_X2_isSet σ 1
        if x11 = 0 then
          1
        else
          0
      else
        if a1 = 3 then
          let x14 : Int32 := f_X2_isSet σ 1
          x14
        else
          if a1 = 4 then
            let x16 : Int32 := f_X2_isSet σ 4
            x16
          else
            if a1 = 5 then
              v4
            else
              if a1 = 6 then
                if v4 = 0 then
                  1
                else
                  0
              else
                1
def f_X2_doJump (σ : StC) (a1 : Int32) : StC :=
  let x1 : Int32 := f_X2_isJumpTaken σ ((a1 >>> ((10 : Int32) &&& 31)) &&& (7 : Int32))
  let v3 : StC := if x1 = 0 then
    σ
  else
    let x4 : Int32 := ((a1 &&& (1023 : Int32)) ^^^ (512 : Int32)) - (512 : Int32)
    let σ5 : StC := f_X2_addToRegister σ 0 ((2 : Int32) * x4)
    σ5
  let σ4 : StC := f_X2_spend v3 2
  σ4
def f_X2_kindOfSource (a1 : Int32) (a2 : Int32) : Int32 :=
  if a1 < 65536 then
    tabC 0 ((a2 >>> ((4 : Int32) &&& 31)) &&& (3 : Int32)).toNatClampNeg
  else
    0
def f_X2_twoPartsCycles (a1 : Int32) : Nat :=
  if 65536 ≤ a1 then
    if a1 = 65536 then
      2
    else
      1
  else
    3
def f_X2_indexedPlace (σ : StC) (a1 : Int32) : Int32 × StC :=
  let v2 : Int32 := if a1 = 2 then
    0
  else
    σ.1 (a1 &&& (15 : Int32)).toNatClampNeg
  let x3 : Int32 := f_X0_wordAt σ (σ.1 (0 : Int32).toNatClampNeg)
  let σ4 : StC := f_X2_addToRegister σ 0 2
  ((x3 + v2) &&& (65535 : Int32), σ4)
def f_X2_destinationPlace (σ : StC) (a1 : Int32) : Int32 × StC :=
  let x1 : Int32 := a1 &&& (15 : Int32)
  if (a1 &&& (128 : Int32)) = 0 then
    ((65536 : Int32) + x1, σ)
  else
    let x3 : Int32 := (f_X2_indexedPlace σ x1).1
    let σ4 : StC := (f_X2_indexedPlace σ x1).2
    (x3, σ4)
def f_X2_sourcePlace (σ : StC) (a1 : Int32) (a2 : Int32) : Int32 × StC :=
  let x1 : Int32 := (a1 >>> ((4 : Int32) &&& 31)) &&& (3 : Int32)
  if a2 = 3 then
    let v21 : Int32 := if x1 = 3 then
      65535
    else
      x1
    ((131072 : Int32) + v21, σ)
  else
    if x1 = 0 then
      ((65536 : Int32) + a2, σ)
    else
      if x1 = 1 then
        let x18 : Int32 := (f_X2_indexedPlace σ a2).1
        let σ19 : StC := (f_X2_indexedPlace σ a2).2
        (x18, σ19)
      else
        if a2 = 2 then
          let v17 : Int32 := if x1 = 2 then
            4
          else
            8
          ((131072 : Int32) + v17, σ)
        else
          let x6 : Int32 := σ.1 a2.toNatClampNeg
          let v8 : StC := if x1 = 3 then
            let v10 : Int32 := if (a1 &&& (64 : Int32)) = 0 then
              0
            else
              if a2 = 0 then
                0
              else
                if a2 = 1 then
                  0
                else
                  1
            let v12 : Int32 := if v10 = 0 then
              2
            else
              1
            let σ13 : StC := f_X2_addToRegister σ a2 v12
            σ13
          else
            σ
          (x6, v8)
def f_X2_valueAt (σ : StC) (a1 : Int32) (a2 : Int32) : Int32 :=
  if 65536 ≤ a1 then
    let v3 : Int32 := if 131072 ≤ a1 then
      a1 - (131072 : Int32)
    else
      σ.1 (a1 &&& (15 : Int32)).toNatClampNeg
    if a2 = 0 then
      v3
    else
      v3 &&& (255 : Int32)
  else
    if a2 = 0 then
      let x6 : Int32 := f_X0_wordAt σ a1
      x6
    else
      let x7 : Int32 := f_X0_byteAt σ a1
      x7
def f_X2_put (σ : StC) (a1 : Int32) (a2 : Int32) (a3 : Int32) : StC :=
  if a1 < 131072 then
    if a1 < 65536 then
      if a3 = 0 then
        let σ4 : StC := f_X0_writeWord σ a1 a2
        σ4
      else
        let σ5 : StC := f_X0_writeByte σ a1 a2
        σ5
    else
      let σ6 : StC := f_X2_setRegister σ (a1 &&& (15 : Int32)) a2
      σ6
  else
    σ
def f_X2_change (σ : StC) (a1 : Int32) (a2 : Int32) (a3 : Int32) : Int32 × StC :=
  let v2 : Int32 := if a3 = 0 then
    65535
  else
    255
  let x3 : Int32 := (v2 + (1 : Int32)) >>> ((1 : Int32) &&& 31)
  if a1 = 0 then
    let x5 : Int32 := f_X2_isSet σ 1
    let v7 : Int32 := if x5 = 0 then
      0
    else
      x3
    let x8 : Int32 := (f_X2_shifted σ a2 v7 v2).1
    let σ9 : StC := (f_X2_shifted σ a2 v7 v2).2
    (x8, σ9)
  else
    if a1 = 1 then
      (((a2 &&& (255 : Int32)) <<< ((8 : Int32) &&& 31)) ||| (a2 >>> ((8 : Int32) &&& 31)), σ)
    else
      if a1 = 2 then
        let x12 : Int32 := (f_X2_shifted σ a2 (a2 &&& x3) v2).1
        let σ13 : StC := (f_X2_shifted σ a2 (a2 &&& x3) v2).2
        (x12, σ13)
      else
        let x14 : Int32 := (f_X2_logical σ ((((a2 &&& (255 : Int32)) ^^^ (128 : Int32)) - (128 : Int32)) &&& (65535 : Int32)) 0 v2).1
        let σ15 : StC := (f_X2_logical σ ((((a2 &&& (255 : Int32)) ^^^ (128 : Int32)) - (128 : Int32)) &&& (65535 : Int32)) 0 v2).2
        (x14, σ15)
def f_X2_addDecimal (σ : StC) (a1 : Int32) (a2 : Int32) (a3 : Int32) : Int32 × StC :=
  let x1 : Int32 := (σ.1 (2 : Int32).toNatClampNeg) &&& (1 : Int32)
  let v4 : Int32 × Int32 × Int32 := if (a3 >>> ((0 : Int32) &&& 31)) = 0 then
    (0, x1, 0)
  else
    let x5 : Int32 := (((a1 >>> ((0 : Int32) &&& 31)) &&& (15 : Int32)) + ((a2 >>> ((0 : Int32) &&& 31)) &&& (15 : Int32))) + x1
    let v7 : Int32 := if x5 ≤ 9 then
      0
    else
      1
    let x8 : Int32 := (0 : Int32) ||| (((x5 - ((10 : Int32) * v7)) &&& (15 : Int32)) <<< ((0 : Int32) &&& 31))
    if (a3 >>> ((4 : Int32) &&& 31)) = 0 then
      (4, v7, x8)
    else
      let x11 : Int32 := (((a1 >>> ((4 : Int32) &&& 31)) &&& (15 : Int32)) + ((a2 >>> ((4 : Int32) &&& 31)) &&& (15 : Int32))) + v7
      let v13 : Int32 := if x11 ≤ 9 then
        0
      else
        1
      let x14 : Int32 := x8 ||| (((x11 - ((10 : Int32) * v13)) &&& (15 : Int32)) <<< ((4 : Int32) &&& 31))
      if (a3 >>> ((8 : Int32) &&& 31)) = 0 then
        (8, v13, x14)
      else
        let x17 : Int32 := (((a1 >>> ((8 : Int32) &&& 31)) &&& (15 : Int32)) + ((a2 >>> ((8 : Int32) &&& 31)) &&& (15 : Int32))) + v13
        let v19 : Int32 := if x17 ≤ 9 then
          0
        else
          1
        let x20 : Int32 := x14 ||| (((x17 - ((10 : Int32) * v19)) &&& (15 : Int32)) <<< ((8 : Int32) &&& 31))
        if (a3 >>> ((12 : Int32) &&& 31)) = 0 then
          (12, v19, x20)
        else
          let x23 : Int32 := (((a1 >>> ((12 : Int32) &&& 31)) &&& (15 : Int32)) + ((a2 >>> ((12 : Int32) &&& 31)) &&& (15 : Int32))) + v19
          let v25 : Int32 := if x23 ≤ 9 then
            0
          else
            1
          let x26 : Int32 := x20 ||| (((x23 - ((10 : Int32) * v25)) &&& (15 : Int32)) <<< ((12 : Int32) &&& 31))
          (16, v25, x26)
  let v6 : Int32 := if v4.2.1 = 1 then
    1
  else
    0
  let σ7 : StC := f_X2_setFlags σ v4.2.2 v6 0 a3
  (v4.2.2, σ7)
def f_X2_combine (σ : StC) (a1 : Int32) (a2 : Int32) (a3 : Int32) (a4 : Int32) : Int32 × StC :=
  let v2 : Int32 := if a4 = 0 then
    65535
  else
    255
  if a1 = 4 then
    (a2, σ)
  else
    if a1 = 5 then
      let x5 : Int32 := (f_X2_add σ a2 a3 0 v2).1
      let σ6 : StC := (f_X2_add σ a2 a3 0 v2).2
      (x5, σ6)
    else
      if a1 = 6 then
        let x8 : Int32 := (f_X2_add σ a2 a3 ((σ.1 (2 : Int32).toNatClampNeg) &&& (1 : Int32)) v2).1
        let σ9 : StC := (f_X2_add σ a2 a3 ((σ.1 (2 : Int32).toNatClampNeg) &&& (1 : Int32)) v2).2
        (x8, σ9)
      else
        if a1 = 7 then
          let x11 : Int32 := (f_X2_add σ (a2 ^^^ v2) a3 ((σ.1 (2 : Int32).toNatClampNeg) &&& (1 : Int32)) v2).1
          let σ12 : StC := (f_X2_add σ (a2 ^^^ v2) a3 ((σ.1 (2 : Int32).toNatClampNeg) &&& (1 : Int32)) v2).2
          (x11, σ12)
        else
          if a1 = 8 then
            let x14 : Int32 := (f_X2_add σ (a2 ^^^ v2) a3 1 v2).1
            let σ15 : StC := (f_X2_add σ (a2 ^^^ v2) a3 1 v2).2
            (x14, σ15)
          else
            if a1 = 9 then
              let x17 : Int32 := (f_X2_add σ (a2 ^^^ v2) a3 1 v2).1
              let σ18 : StC := (f_X2_add σ (a2 ^^^ v2) a3 1 v2).2
              (x17, σ18)
            else
              if a1 = 10 then
                let x20 : Int32 := (f_X2_addDecimal σ a2 a3 v2).1
                let σ21 : StC := (f_X2_addDecimal σ a2 a3 v2).2
                (x20, σ21)
              else
                if a1 = 11 then
                  let x23 : Int32 := (f_X2_logical σ (a2 &&& a3) 0 v2).1
                  let σ24 : StC := (f_X2_logical σ (a2 &&& a3) 0 v2).2
                  (x23, σ24)
                else
                  if a1 = 12 then
                    (a3 &&& (a2 ^^^ ((-1) : Int32)), σ)
                  else
                    if a1 = 13 then
                      (a3 ||| a2, σ)
                    else
                      if a1 = 14 then
                        let x28 : Int32 := f_X2_isHighestSet (a2 &&& a3) v2
                        let x29 : Int32 := (f_X2_logical σ (a2 ^^^ a3) x28 v2).1
                        let σ30 : StC := (f_X2_logical σ (a2 ^^^ a3) x28 v2).2
                        (x29, σ30)
                      else
                        let x31 : Int32 := (f_X2_logical σ (a2 &&& a3) 0 v2).1
                        let σ32 : StC := (f_X2_logical σ (a2 &&& a3) 0 v2).2
                        (x31, σ32)
def f_X2_doTwoParts (σ : StC) (a1 : Int32) : StC :=
  let v2 : Int32 := if (a1 &&& (64 : Int32)) = 0 then
    0
  else
    1
  let x3 : Int32 := (f_X2_sourcePlace σ a1 ((a1 >>> ((8 : Int32) &&& 31)) &&& (15 : Int32))).1
  let σ4 : StC := (f_X2_sourcePlace σ a1 ((a1 >>> ((8 : Int32) &&& 31)) &&& (15 : Int32))).2
  let x5 : Int32 := f_X2_valueAt σ4 x3 v2
  let x6 : Int32 := (f_X2_destinationPlace σ4 a1).1
  let σ7 : StC := (f_X2_destinationPlace σ4 a1).2
  let x8 : Int32 := f_X2_valueAt σ7 x6 v2
  let x9 : Int32 := a1 >>> ((12 : Int32) &&& 31)
  let x10 : Int32 := (f_X2_combine σ7 x9 x5 x8 v2).1
  let σ11 : StC := (f_X2_combine σ7 x9 x5 x8 v2).2
  let v13 : StC := if x9 = 9 then
    σ11
  else
    if x9 = 11 then
      σ11
    else
      let σ15 : StC := f_X2_put σ11 x6 x10 v2
      σ15
  let x14 : Nat := f_X2_twoPartsCycles x6
  let x15 : Int32 := f_X2_kindOfSource x3 a1
  let σ16 : StC := f_X2_spendByKind v13 x14 x15
  σ16
def f_X2_doOnePart (σ : StC) (a1 : Int32) : StC :=
  let v2 : Int32 := if (a1 &&& (64 : Int32)) = 0 then
    0
  else
    1
  let x3 : Int32 := (f_X2_sourcePlace σ a1 (a1 &&& (15 : Int32))).1
  let σ4 : StC := (f_X2_sourcePlace σ a1 (a1 &&& (15 : Int32))).2
  let x5 : Int32 := f_X2_valueAt σ4 x3 v2
  let x6 : Int32 := f_X2_kindOfSource x3 a1
  let x7 : Int32 := (a1 >>> ((7 : Int32) &&& 31)) &&& (7 : Int32)
  if x7 = 4 then
    let σ17 : StC := f_X2_push σ4 x5 v2
    if (a1 &&& (63 : Int32)) = 48 then
      let σ20 : StC := f_X2_spend σ17 4
      σ20
    else
      let σ19 : StC := f_X2_spendByKind σ17 5 x6
      σ19
  else
    if x7 = 5 then
      let σ14 : StC := f_X2_push σ4 (σ4.1 (0 : Int32).toNatClampNeg) 0
      let σ15 : StC := f_X2_setRegister σ14 0 x5
      let σ16 : StC := f_X2_spendByKind σ15 6 x6
      σ16
    else
      let x10 : Int32 := (f_X2_change σ4 x7 x5 v2).1
      let σ11 : StC := (f_X2_change σ4 x7 x5 v2).2
      let σ12 : StC := f_X2_put σ11 x3 x10 v2
      let σ13 : StC := f_X2_spendByKind σ12 4 x6
      σ13
def f_X2_step (σ : StC) : Int32 × StC :=
  let x1 : Int32 := σ.1 (2 : Int32).toNatClampNeg
  if (x1 &&& (8 : Int32)) = 0 then
    if (x1 &&& (16 : Int32)) = 0 then
      let x4 : Int32 := f_X0_wordAt σ (σ.1 (0 : Int32).toNatClampNeg)
      let x5 : Int32 := f_X2_isUnassigned x4
      if x5 = 0 then
        let σ7 : StC := f_X2_addToRegister σ 0 2
        let v9 : StC := if x4 < 16384 then
          if x4 < 8192 then
            if x4 = 4864 then
              let σ13 : StC := f_X2_returnFromInterrupt σ7
              σ13
            else
              let σ12 : StC := f_X2_doOnePart σ7 x4
              σ12
          else
            let σ14 : StC := f_X2_doJump σ7 x4
            σ14
        else
          let σ15 : StC := f_X2_doTwoParts σ7 x4
          σ15
        (0, v9)
      else
        (2, σ)
    else
      (1, σ)
  else
    if σ.2.1 = 0 then
      if (x1 &&& (16 : Int32)) = 0 then
        let x18 : Int32 := f_X0_wordAt σ (σ.1 (0 : Int32).toNatClampNeg)
        let x19 : Int32 := f_X2_isUnassigned x18
        if x19 = 0 then
          let σ21 : StC := f_X2_addToRegister σ 0 2
          let v23 : StC := if x18 < 16384 then
            if x18 < 8192 then
              if x18 = 4864 then
                let σ27 : StC := f_X2_returnFromInterrupt σ21
                σ27
              else
                let σ26 : StC := f_X2_doOnePart σ21 x18
                σ26
            else
              let σ28 : StC := f_X2_doJump σ21 x18
              σ28
          else
            let σ29 : StC := f_X2_doTwoParts σ21 x18
            σ29
          (0, v23)
        else
          (2, σ)
      else
        (1, σ)
    else
      let σ30 : StC := f_X2_interrupt σ
      (0, σ30)
def f_X2_poke (σ : StC) (a1 : Int32) (a2 : Int32) : Int32 × StC :=
  if a1 < 0 then
    (0, σ)
  else
    if 65536 ≤ a1 then
      (0, σ)
    else
      if a2 < 0 then
        (0, σ)
      else
        if a2 ≤ 255 then
          let σ5 : StC := f_X0_placeByte σ a1 a2
          (1, σ5)
        else
          (0, σ)
def f_X2_peek (σ : StC) (a1 : Int32) : Int32 :=
  if a1 < 0 then
    (-1)
  else
    if a1 < 65536 then
      let x3 : Int32 := f_X0_byteAt σ a1
      x3
    else
      (-1)
def f_X2_reg (σ : StC) (a1 : Int32) : Int32 :=
  if a1 < 0 then
    (-1)
  else
    if a1 < 16 then
      σ.1 a1.toNatClampNeg
    else
      (-1)
def f_X2_raise (σ : StC) (a1 : Int32) : Int32 × StC :=
  if a1 < 0 then
    (0, σ)
  else
    if a1 < 14 then
      let x3 : Int32 := σ.2.1 ||| ((1 : Int32) <<< (a1 &&& 31))
      (1, (σ.1, x3, σ.2.2.1, σ.2.2.2.1, σ.2.2.2.2.1, σ.2.2.2.2.2.1, σ.2.2.2.2.2.2.1, σ.2.2.2.2.2.2.2.1, σ.2.2.2.2.2.2.2.2.1, σ.2.2.2.2.2.2.2.2.2))
    else
      (0, σ)
def f_X2_cyclesOf (σ : StC) : Int32 :=
  σ.2.2.1
def f_X2_pending (σ : StC) : Int32 :=
  σ.2.1
def f_X2_mode (σ : StC) : Int32 :=
  σ.2.2.2.2.2.2.2.2.2
def f_X2_init_ (σ : StC) : StC :=
  let σ18 : StC := f_X1_clear (upd (upd (upd (upd (upd (upd (upd (upd (upd (upd (upd (upd (upd (upd (upd (upd σ.1 ((0 : Int32).toNatClampNeg) 0) ((1 : Int32).toNatClampNeg) 0) ((2 : Int32).toNatClampNeg) 0) ((3 : Int32).toNatClampNeg) 0) ((4 : Int32).toNatClampNeg) 0) ((5 : Int32).toNatClampNeg) 0) ((6 : Int32).toNatClampNeg) 0) ((7 : Int32).toNatClampNeg) 0) ((8 : Int32).toNatClampNeg) 0) ((9 : Int32).toNatClampNeg) 0) ((10 : Int32).toNatClampNeg) 0) ((11 : Int32).toNatClampNeg) 0) ((12 : Int32).toNatClampNeg) 0) ((13 : Int32).toNatClampNeg) 0) ((14 : Int32).toNatClampNeg) 0) ((15 : Int32).toNatClampNeg) 0, 0, 0, σ.2.2.2.1, σ.2.2.2.2.1, σ.2.2.2.2.2.1, σ.2.2.2.2.2.2.1, σ.2.2.2.2.2.2.2.1, σ.2.2.2.2.2.2.2.2.1, σ.2.2.2.2.2.2.2.2.2)
  let x19 : Int32 := f_X0_wordAt σ18 65534
  let σ20 : StC := f_X2_setRegister σ18 0 x19
  σ20
def f_X3_isMultiplier (a1 : Int32) : Int32 :=
  if a1 < 304 then
    0
  else
    if 320 ≤ a1 then
      0
    else
      1
def f_X3_which (a1 : Int32) : Int32 :=
  if 312 ≤ a1 then
    ((a1 - (304 : Int32)) / (2 : Int32)) - (3 : Int32)
  else
    0
def f_X3_isAddress (a1 : Int32) : Int32 :=
  if a1 < 0 then
    0
  else
    if 65536 ≤ a1 then
      0
    else
      1
def f_X3_withByte (a1 : Int32) (a2 : Int32) (a3 : Int32) : Int32 :=
  if (a2 &&& (1 : Int32)) = 0 then
    (a1 &&& (65280 : Int32)) ||| a3
  else
    (a1 &&& (255 : Int32)) ||| (a3 <<< ((8 : Int32) &&& 31))
def f_X3_sort (a1 : Int32) (a2 : Int32) : Int32 :=
  if a1 = 0 then
    0
  else
    if a2 = 3 then
      0
    else
      if a2 = 2 then
        if a1 ≤ 1 then
          if a1 = 1 then
            3
          else
            a1 - (1 : Int32)
        else
          0
      else
        if a1 = 1 then
          3
        else
          a1 - (1 : Int32)
def f_X3_pick (a1 : Int32) (a2 : Int32) : Int32 :=
  (a1 >>> (((4 : Int32) * a2) &&& 31)) &&& (15 : Int32)
def f_X3_isAssigned (a1 : Int32) : Int32 :=
  if a1 < 8192 then
    if a1 < 4096 then
      0
    else
      if a1 ≤ 4864 then
        let x4 : Int32 := (a1 >>> ((7 : Int32) &&& 31)) &&& (7 : Int32)
        if a1 = 4864 then
          1
        else
          if (a1 &&& (64 : Int32)) = 0 then
            1
          else
            if x4 = 0 then
              1
            else
              if x4 = 2 then
                1
              else
                if x4 = 4 then
                  1
                else
                  0
      else
        0
  else
    1
def f_X3_wordAt (σ : StR) (a1 : Int32) : Int32 :=
  let x1 : Int32 := f_X3_isMultiplier a1
  if x1 = 0 then
    (σ.1 (a1 >>> ((1 : Int32) &&& 31)).toNatClampNeg) &&& (65535 : Int32)
  else
    let x3 : Int32 := f_X3_which a1
    σ.2.2.1 x3.toNatClampNeg
def f_X3_byteAt (σ : StR) (a1 : Int32) : Int32 :=
  let x1 : Int32 := f_X3_wordAt σ a1
  (x1 >>> (((8 : Int32) * (a1 &&& (1 : Int32))) &&& 31)) &&& (255 : Int32)
def f_X3_valueAt (σ : StR) (a1 : Int32) : Int32 :=
  if σ.2.2.2.2.2.2.2.2 = 0 then
    let x2 : Int32 := f_X3_wordAt σ a1
    x2
  else
    let x3 : Int32 := f_X3_byteAt σ a1
    x3
def f_X3_product (σ : StR) : StR :=
  let v2 : Int64 := if (σ.2.2.2.1 - σ.2.2.2.1 / (2 : Int32) * (2 : Int32)) = 0 then
    (σ.2.2.1 (0 : Int32).toNatClampNeg).toInt64
  else
    ((σ.2.2.1 (0 : Int32).toNatClampNeg).toInt16.toInt32).toInt64
  let v4 : Int64 := if (σ.2.2.2.1 - σ.2.2.2.1 / (2 : Int32) * (2 : Int32)) = 0 then
    (σ.2.2.1 (1 : Int32).toNatClampNeg).toInt64
  else
    ((σ.2.2.1 (1 : Int32).toNatClampNeg).toInt16.toInt32).toInt64
  let x5 : Int64 := v2 * v4
  let v7 : Int64 := if 2 ≤ σ.2.2.2.1 then
    (((σ.2.2.1 (3 : Int32).toNatClampNeg).toInt64) <<< ((16 : Int32).toInt64 &&& 63)) ||| ((σ.2.2.1 (2 : Int32).toNatClampNeg).toInt64)
  else
    0
  let x8 : Int64 := v7 + (x5 &&& (4294967295 : Int64))
  let x9 : Int32 := (x8 &&& (65535 : Int64)).toInt32
  let x10 : Int32 := ((x8 >>> ((16 : Int32).toInt64 &&& 63)) &&& (65535 : Int64)).toInt32
  if σ.2.2.2.1 = 2 then
    let x17 : Int32 := (x8 >>> ((32 : Int32).toInt64 &&& 63)).toInt32
    (σ.1, σ.2.1, upd (upd (upd σ.2.2.1 ((2 : Int32).toNatClampNeg) x9) ((3 : Int32).toNatClampNeg) x10) ((4 : Int32).toNatClampNeg) x17, σ.2.2.2.1, σ.2.2.2.2.1, σ.2.2.2.2.2.1, σ.2.2.2.2.2.2.1, σ.2.2.2.2.2.2.2.1, σ.2.2.2.2.2.2.2.2)
  else
    let v13 : Int32 := if (σ.2.2.2.1 - σ.2.2.2.1 / (2 : Int32) * (2 : Int32)) = 1 then
      if σ.2.2.2.1 = 1 then
        if 0 ≤ (lg_cmp x5 0) then
          0
        else
          65535
      else
        if (upd (upd σ.2.2.1 ((2 : Int32).toNatClampNeg) x9) ((3 : Int32).toNatClampNeg) x10 (3 : Int32).toNatClampNeg) ≤ 32767 then
          0
        else
          65535
    else
      0
    (σ.1, σ.2.1, upd (upd (upd σ.2.2.1 ((2 : Int32).toNatClampNeg) x9) ((3 : Int32).toNatClampNeg) x10) ((4 : Int32).toNatClampNeg) v13, σ.2.2.2.1, σ.2.2.2.2.1, σ.2.2.2.2.2.1, σ.2.2.2.2.2.2.1, σ.2.2.2.2.2.2.2.1, σ.2.2.2.2.2.2.2.2)
def f_X3_multiply (σ : StR) (a1 : Int32) (a2 : Int32) : StR :=
  if 4 ≤ a1 then
    if a1 = 4 then
      let σ4 : StR := f_X3_product (σ.1, σ.2.1, upd σ.2.2.1 ((1 : Int32).toNatClampNeg) a2, σ.2.2.2.1, σ.2.2.2.2.1, σ.2.2.2.2.2.1, σ.2.2.2.2.2.2.1, σ.2.2.2.2.2.2.2.1, σ.2.2.2.2.2.2.2.2)
      σ4
    else
      if 7 ≤ a1 then
        σ
      else
        (σ.1, σ.2.1, upd σ.2.2.1 ((a1 - (3 : Int32)).toNatClampNeg) a2, σ.2.2.2.1, σ.2.2.2.2.1, σ.2.2.2.2.2.1, σ.2.2.2.2.2.2.1, σ.2.2.2.2.2.2.2.1, σ.2.2.2.2.2.2.2.2)
  else
    (σ.1, σ.2.1, upd σ.2.2.1 ((0 : Int32).toNatClampNeg) a2, a1, σ.2.2.2.2.1, σ.2.2.2.2.2.1, σ.2.2.2.2.2.2.1, σ.2.2.2.2.2.2.2.1, σ.2.2.2.2.2.2.2.2)
def f_X3_setWord (σ : StR) (a1 : Int32) (a2 : Int32) : StR :=
  let x1 : Int32 := f_X3_isMultiplier a1
  if x1 = 0 then
    (upd σ.1 ((a1 >>> ((1 : Int32) &&& 31)).toNatClampNeg) (vp_nar .short a2.toInt16.toInt32), σ.2.1, σ.2.2.1, σ.2.2.2.1, σ.2.2.2.2.1, σ.2.2.2.2.2.1, σ.2.2.2.2.2.2.1, σ.2.2.2.2.2.2.2.1, σ.2.2.2.2.2.2.2.2)
  else
    let σ3 : StR := f_X3_multiply σ ((a1 - (304 : Int32)) / (2 : Int32)) a2
    σ3
def f_X3_setByte (σ : StR) (a1 : Int32) (a2 : Int32) : StR :=
  let x1 : Int32 := f_X3_isMultiplier a1
  if x1 = 0 then
    let x5 : Int32 := f_X3_withByte ((σ.1 (a1 >>> ((1 : Int32) &&& 31)).toNatClampNeg) &&& (65535 : Int32)) a1 a2
    (upd σ.1 ((a1 >>> ((1 : Int32) &&& 31)).toNatClampNeg) (vp_nar .short x5.toInt16.toInt32), σ.2.1, σ.2.2.1, σ.2.2.2.1, σ.2.2.2.2.1, σ.2.2.2.2.2.1, σ.2.2.2.2.2.2.1, σ.2.2.2.2.2.2.2.1, σ.2.2.2.2.2.2.2.2)
  else
    if (a1 &&& (1 : Int32)) = 0 then
      let σ4 : StR := f_X3_multiply σ ((a1 - (304 : Int32)) / (2 : Int32)) a2
      σ4
    else
      σ
def f_X3_setRegister (σ : StR) (a1 : Int32) (a2 : Int32) : StR :=
  if a1 = 3 then
    σ
  else
    let v3 : Int32 := if a1 = 0 then
      a2 &&& (65534 : Int32)
    else
      a2 &&& (65535 : Int32)
    (σ.1, upd σ.2.1 a1.toNatClampNeg v3, σ.2.2.1, σ.2.2.2.1, σ.2.2.2.2.1, σ.2.2.2.2.2.1, σ.2.2.2.2.2.2.1, σ.2.2.2.2.2.2.2.1, σ.2.2.2.2.2.2.2.2)
def f_X3_write (σ : StR) (a1 : Int32) (a2 : Int32) : StR :=
  if 16 ≤ a1 then
    if a1 < 65536 then
      σ
    else
      if σ.2.2.2.2.2.2.2.2 = 0 then
        let σ6 : StR := f_X3_setWord σ (a1 - (65536 : Int32)) a2
        σ6
      else
        let σ7 : StR := f_X3_setByte σ (a1 - (65536 : Int32)) a2
        σ7
  else
    let σ8 : StR := f_X3_setRegister σ a1 a2
    σ8
def f_X3_spend (σ : StR) (a1 : Int32) : StR :=
  let x1 : Int32 := (σ.2.2.2.2.2.1 + a1) &&& (1073741823 : Int32)
  (σ.1, σ.2.1, σ.2.2.1, σ.2.2.2.1, σ.2.2.2.2.1, x1, σ.2.2.2.2.2.2.1, σ.2.2.2.2.2.2.2.1, σ.2.2.2.2.2.2.2.2)
def f_X3_flag (σ : StR) (a1 : Int32) : Int32 :=
  if ((σ.2.1 (2 : Int32).toNatClampNeg) &&& a1) = 0 then
    0
  else
    1
def f_X3_setFlag (σ : StR) (a1 : Int32) (a2 : Int32) : StR :=
  let v2 : Int32 := if a2 = 0 then
    (σ.2.1 (2 : Int32).toNatClampNeg) &&& (a1 ^^^ ((-1) : Int32))
  else
    (σ.2.1 (2 : Int32).toNatClampNeg) ||| a1
  (σ.1, upd σ.2.1 ((2 : Int32).toNatClampNeg) v2, σ.2.2.1, σ.2.2.2.1, σ.2.2.2.2.1, σ.2.2.2.2.2.1, σ.2.2.2.2.2.2.1, σ.2.2.2.2.2.2.2.1, σ.2.2.2.2.2.2.2.2)
def f_X3_high (σ : StR) : Int32 :=
  if σ.2.2.2.2.2.2.2.2 = 0 then
    32768
  else
    128
def f_X3_all (σ : StR) : Int32 :=
  if σ.2.2.2.2.2.2.2.2 = 0 then
    65535
  else
    255
def f_X3_flags (σ : StR) (a1 : Int32) (a2 : Int32) (a3 : Int32) : StR :=
  let σ1 : StR := f_X3_setFlag σ 1 a2
  let v3 : Int32 := if a1 = 0 then
    1
  else
    0
  let σ4 : StR := f_X3_setFlag σ1 2 v3
  let x5 : Int32 := f_X3_high σ4
  let v7 : Int32 := if (a1 &&& x5) = 0 then
    0
  else
    1
  let σ8 : StR := f_X3_setFlag σ4 4 v7
  let σ9 : StR := f_X3_setFlag σ8 256 a3
  σ9
def f_X3_sum (σ : StR) (a1 : Int32) (a2 : Int32) (a3 : Int32) : Int32 × StR :=
  let x1 : Int32 := (a1 + a2) + a3
  let x2 : Int32 := f_X3_all σ
  let x3 : Int32 := x1 &&& x2
  let x4 : Int32 := f_X3_all σ
  let v6 : Int32 := if x1 ≤ x4 then
    0
  else
    1
  let x7 : Int32 := f_X3_high σ
  let v9 : Int32 := if ((a1 ^^^ a2) &&& x7) = 0 then
    let x10 : Int32 := f_X3_high σ
    if ((a1 ^^^ x3) &&& x10) = 0 then
      0
    else
      1
  else
    0
  let σ10 : StR := f_X3_flags σ x3 v6 v9
  (x3, σ10)
def f_X3_number (σ : StR) (a1 : Int32) : StR :=
  let v2 : Int32 := if σ.2.2.2.2.2.2.2.2 = 0 then
    a1
  else
    a1 &&& (255 : Int32)
  (σ.1, σ.2.1, σ.2.2.1, σ.2.2.2.1, σ.2.2.2.2.1, σ.2.2.2.2.2.1, v2, 16, σ.2.2.2.2.2.2.2.2)
def f_X3_register (σ : StR) (a1 : Int32) : StR :=
  let v2 : Int32 := if σ.2.2.2.2.2.2.2.2 = 0 then
    σ.2.1 a1.toNatClampNeg
  else
    (σ.2.1 a1.toNatClampNeg) &&& (255 : Int32)
  let v4 : Int32 := if a1 = 3 then
    16
  else
    a1
  (σ.1, σ.2.1, σ.2.2.1, σ.2.2.2.1, σ.2.2.2.2.1, σ.2.2.2.2.2.1, v2, v4, σ.2.2.2.2.2.2.2.2)
def f_X3_memory (σ : StR) (a1 : Int32) : StR :=
  let x1 : Int32 := f_X3_valueAt σ (a1 &&& (65535 : Int32))
  let x2 : Int32 := (65536 : Int32) + (a1 &&& (65535 : Int32))
  (σ.1, σ.2.1, σ.2.2.1, σ.2.2.2.1, σ.2.2.2.2.1, σ.2.2.2.2.2.1, x1, x2, σ.2.2.2.2.2.2.2.2)
def f_X3_decimal (σ : StR) (a1 : Int32) (a2 : Int32) : Int32 × StR :=
  let x1 : Int32 := f_X3_flag σ 1
  if σ.2.2.2.2.2.2.2.2 = 0 then
    let x4 : Int32 := (((a1 >>> ((0 : Int32) &&& 31)) &&& (15 : Int32)) + ((a2 >>> ((0 : Int32) &&& 31)) &&& (15 : Int32))) + x1
    let v6 : Int32 := if x4 ≤ 9 then
      0
    else
      1
    let x7 : Int32 := (0 : Int32) ||| (((x4 - ((10 : Int32) * v6)) &&& (15 : Int32)) <<< ((0 : Int32) &&& 31))
    let x10 : Int32 := (((a1 >>> ((4 : Int32) &&& 31)) &&& (15 : Int32)) + ((a2 >>> ((4 : Int32) &&& 31)) &&& (15 : Int32))) + v6
    let v12 : Int32 := if x10 ≤ 9 then
      0
    else
      1
    let x13 : Int32 := x7 ||| (((x10 - ((10 : Int32) * v12)) &&& (15 : Int32)) <<< ((4 : Int32) &&& 31))
    let x16 : Int32 := (((a1 >>> ((8 : Int32) &&& 31)) &&& (15 : Int32)) + ((a2 >>> ((8 : Int32) &&& 31)) &&& (15 : Int32))) + v12
    let v18 : Int32 := if x16 ≤ 9 then
      0
    else
      1
    let x19 : Int32 := x13 ||| (((x16 - ((10 : Int32) * v18)) &&& (15 : Int32)) <<< ((8 : Int32) &&& 31))
    let x22 : Int32 := (((a1 >>> ((12 : Int32) &&& 31)) &&& (15 : Int32)) + ((a2 >>> ((12 : Int32) &&& 31)) &&& (15 : Int32))) + v18
    let v24 : Int32 := if x22 ≤ 9 then
      0
    else
      1
    let x25 : Int32 := x19 ||| (((x22 - ((10 : Int32) * v24)) &&& (15 : Int32)) <<< ((12 : Int32) &&& 31))
    let v29 : Int32 := if v24 = 1 then
      1
    else
      0
    let σ30 : StR := f_X3_flags σ x25 v29 0
    (x25, σ30)
  else
    let x32 : Int32 := (((a1 >>> ((0 : Int32) &&& 31)) &&& (15 : Int32)) + ((a2 >>> ((0 : Int32) &&& 31)) &&& (15 : Int32))) + x1
    let v34 : Int32 := if x32 ≤ 9 then
      0
    else
      1
    let x35 : Int32 := (0 : Int32) ||| (((x32 - ((10 : Int32) * v34)) &&& (15 : Int32)) <<< ((0 : Int32) &&& 31))
    let x38 : Int32 := (((a1 >>> ((4 : Int32) &&& 31)) &&& (15 : Int32)) + ((a2 >>> ((4 : Int32) &&& 31)) &&& (15 : Int32))) + v34
    let v40 : Int32 := if x38 ≤ 9 then
      0
    else
      1
    let x41 : Int32 := x35 ||| (((x38 - ((10 : Int32) * v40)) &&& (15 : Int32)) <<< ((4 : Int32) &&& 31))
    let v45 : Int32 := if v40 = 1 then
      1
    else
      0
    let σ46 : StR := f_X3_flags σ x41 v45 0
    (x41, σ46)
def f_X3_joined (σ : StR) (a1 : Int32) (a2 : Int32) (a3 : Int32) : Int32 × StR :=
  let x1 : Int32 := f_X3_all σ
  let x2 : Int32 := a2 ^^^ x1
  if a1 = 4 then
    (a2, σ)
  else
    if a1 = 5 then
      let x5 : Int32 := (f_X3_sum σ a2 a3 0).1
      let σ6 : StR := (f_X3_sum σ a2 a3 0).2
      (x5, σ6)
    else
      if a1 = 6 then
        let x8 : Int32 := f_X3_flag σ 1
        let x9 : Int32 := (f_X3_sum σ a2 a3 x8).1
        let σ10 : StR := (f_X3_sum σ a2 a3 x8).2
        (x9, σ10)
      else
        if a1 = 7 then
          let x12 : Int32 := f_X3_flag σ 1
          let x13 : Int32 := (f_X3_sum σ x2 a3 x12).1
          let σ14 : StR := (f_X3_sum σ x2 a3 x12).2
          (x13, σ14)
        else
          if a1 = 8 then
            let x16 : Int32 := (f_X3_sum σ x2 a3 1).1
            let σ17 : StR := (f_X3_sum σ x2 a3 1).2
            (x16, σ17)
          else
            if a1 = 9 then
              let x19 : Int32 := (f_X3_sum σ x2 a3 1).1
              let σ20 : StR := (f_X3_sum σ x2 a3 1).2
              (x19, σ20)
            else
              if a1 = 10 then
                let x22 : Int32 := (f_X3_decimal σ a2 a3).1
                let σ23 : StR := (f_X3_decimal σ a2 a3).2
                (x22, σ23)
              else
                if a1 = 11 then
                  let x25 : Int32 := a2 &&& a3
                  let v27 : Int32 := if x25 = 0 then
                    0
                  else
                    1
                  let σ28 : StR := f_X3_flags σ x25 v27 0
                  (x25, σ28)
                else
                  if a1 = 12 then
                    (a3 &&& x2, σ)
                  else
                    if a1 = 13 then
                      (a3 ||| a2, σ)
                    else
                      if a1 = 14 then
                        let x32 : Int32 := a2 ^^^ a3
                        let v34 : Int32 := if x32 = 0 then
                          0
                        else
                          1
                        let x35 : Int32 := f_X3_high σ
                        let v37 : Int32 := if ((a2 &&& a3) &&& x35) = 0 then
                          0
                        else
                          1
                        let σ38 : StR := f_X3_flags σ x32 v34 v37
                        (x32, σ38)
                      else
                        let x39 : Int32 := a2 &&& a3
                        let v41 : Int32 := if x39 = 0 then
                          0
                        else
                          1
                        let σ42 : StR := f_X3_flags σ x39 v41 0
                        (x39, σ42)
def f_X3_taken (σ : StR) : Int32 × StR :=
  let x1 : Int32 := f_X3_wordAt σ (σ.2.1 (0 : Int32).toNatClampNeg)
  let σ2 : StR := f_X3_setRegister σ 0 ((σ.2.1 (0 : Int32).toNatClampNeg) + (2 : Int32))
  (x1, σ2)
def f_X3_indexed (σ : StR) (a1 : Int32) : StR :=
  let v2 : Int32 := if a1 = 0 then
    σ.2.1 (0 : Int32).toNatClampNeg
  else
    if 4 ≤ a1 then
      σ.2.1 a1.toNatClampNeg
    else
      if a1 = 1 then
        σ.2.1 a1.toNatClampNeg
      else
        0
  let x3 : Int32 := (f_X3_taken σ).1
  let σ4 : StR := (f_X3_taken σ).2
  let σ5 : StR := f_X3_memory σ4 (v2 + x3)
  σ5
def f_X3_source (σ : StR) (a1 : Int32) (a2 : Int32) : StR :=
  let v2 : StR := if a1 = 0 then
    let σ18 : StR := f_X3_register σ a2
    σ18
  else
    if a1 = 1 then
      if a2 = 3 then
        let σ16 : StR := f_X3_number σ 1
        σ16
      else
        let σ17 : StR := f_X3_indexed σ a2
        σ17
    else
      if a2 = 2 then
        let v12 : Int32 := if a1 = 2 then
          4
        else
          8
        let σ13 : StR := f_X3_number σ v12
        σ13
      else
        if a2 = 3 then
          let v9 : Int32 := if a1 = 2 then
            2
          else
            65535
          let σ10 : StR := f_X3_number σ v9
          σ10
        else
          let σ7 : StR := f_X3_memory σ (σ.2.1 a2.toNatClampNeg)
          σ7
  if a1 = 3 then
    if a2 = 2 then
      v2
    else
      if a2 = 3 then
        v2
      else
        let v7 : Int32 := if v2.2.2.2.2.2.2.2.2 = 0 then
          2
        else
          if a2 ≤ 1 then
            2
          else
            1
        let σ8 : StR := f_X3_setRegister v2 a2 ((v2.2.1 a2.toNatClampNeg) + v7)
        σ8
  else
    v2
def f_X3_push (σ : StR) (a1 : Int32) : StR :=
  let σ1 : StR := f_X3_setRegister σ 1 ((σ.2.1 (1 : Int32).toNatClampNeg) - (2 : Int32))
  let σ2 : StR := f_X3_write σ1 ((65536 : Int32) + (σ1.2.1 (1 : Int32).toNatClampNeg)) a1
  σ2
def f_X3_popped (σ : StR) : Int32 × StR :=
  let x1 : Int32 := f_X3_wordAt σ (σ.2.1 (1 : Int32).toNatClampNeg)
  let σ2 : StR := f_X3_setRegister σ 1 ((σ.2.1 (1 : Int32).toNatClampNeg) + (2 : Int32))
  (x1, σ2)
def f_X3_shifted (σ : StR) (a1 : Int32) : StR :=
  if a1 = 1 then
    let σ17 : StR := f_X3_write σ σ.2.2.2.2.2.2.2.1 (((σ.2.2.2.2.2.2.1 <<< ((8 : Int32) &&& 31)) ||| (σ.2.2.2.2.2.2.1 >>> ((8 : Int32) &&& 31))) &&& (65535 : Int32))
    σ17
  else
    let v3 : Int32 := if a1 = 0 then
      let x5 : Int32 := f_X3_flag σ 1
      let x6 : Int32 := f_X3_high σ
      x5 * x6
    else
      let x4 : Int32 := f_X3_high σ
      σ.2.2.2.2.2.2.1 &&& x4
    let x4 : Int32 := (σ.2.2.2.2.2.2.1 >>> ((1 : Int32) &&& 31)) ||| v3
    let v6 : Int32 := if a1 = 3 then
      let x7 : Int32 := σ.2.2.2.2.2.2.1.toInt8.toInt32 &&& (65535 : Int32)
      x7
    else
      x4
    let v8 : Int32 := if a1 = 3 then
      if v6 = 0 then
        0
      else
        1
    else
      if (σ.2.2.2.2.2.2.1 &&& (1 : Int32)) = 0 then
        0
      else
        1
    let σ9 : StR := f_X3_flags σ v6 v8 0
    let σ10 : StR := f_X3_write σ9 σ.2.2.2.2.2.2.2.1 v6
    σ10
def f_X3_twoParts (σ : StR) (a1 : Int32) : StR :=
  let x1 : Int32 := (a1 >>> ((4 : Int32) &&& 31)) &&& (3 : Int32)
  let x2 : Int32 := (a1 >>> ((8 : Int32) &&& 31)) &&& (15 : Int32)
  let x3 : Int32 := a1 &&& (15 : Int32)
  let v5 : Int32 := if (a1 &&& (128 : Int32)) = 0 then
    0
  else
    1
  let σ6 : StR := f_X3_source σ x1 x2
  let v8 : StR := if v5 = 0 then
    let σ9 : StR := f_X3_register σ6 x3
    σ9
  else
    let σ10 : StR := f_X3_indexed σ6 x3
    σ10
  let x9 : Int32 := a1 >>> ((12 : Int32) &&& 31)
  let x10 : Int32 := (f_X3_joined v8 x9 σ6.2.2.2.2.2.2.1 v8.2.2.2.2.2.2.1).1
  let σ11 : StR := (f_X3_joined v8 x9 σ6.2.2.2.2.2.2.1 v8.2.2.2.2.2.2.1).2
  let v13 : StR := if x9 = 9 then
    σ11
  else
    if x9 = 11 then
      σ11
    else
      let σ15 : StR := f_X3_write σ11 σ11.2.2.2.2.2.2.2.1 x10
      σ15
  let v15 : Int32 := if v5 = 0 then
    if x3 = 0 then
      13090
    else
      12833
  else
    25940
  let x16 : Int32 := f_X3_sort x1 x2
  let x17 : Int32 := f_X3_pick v15 x16
  let σ18 : StR := f_X3_spend v13 x17
  σ18
def f_X3_onePart (σ : StR) (a1 : Int32) : StR :=
  let x1 : Int32 := (a1 >>> ((7 : Int32) &&& 31)) &&& (7 : Int32)
  let x2 : Int32 := (a1 >>> ((4 : Int32) &&& 31)) &&& (3 : Int32)
  let x3 : Int32 := a1 &&& (15 : Int32)
  if x1 = 6 then
    let x23 : Int32 := (f_X3_popped σ).1
    let σ24 : StR := (f_X3_popped σ).2
    let σ25 : StR := f_X3_setRegister σ24 2 x23
    let x26 : Int32 := (f_X3_popped σ25).1
    let σ27 : StR := (f_X3_popped σ25).2
    let σ28 : StR := f_X3_setRegister σ27 0 x26
    let σ29 : StR := f_X3_spend σ28 5
    σ29
  else
    let σ5 : StR := f_X3_source σ x2 x3
    let x6 : Int32 := f_X3_sort x2 x3
    if 4 ≤ x1 then
      if x1 = 4 then
        let σ13 : StR := f_X3_push σ5 σ5.2.2.2.2.2.2.1
        let v15 : Int32 := if x2 = 3 then
          if x3 = 0 then
            4
          else
            let x18 : Int32 := f_X3_pick 21827 x6
            x18
        else
          let x16 : Int32 := f_X3_pick 21827 x6
          x16
        let σ16 : StR := f_X3_spend σ13 v15
        σ16
      else
        let σ9 : StR := f_X3_push σ5 (σ5.2.1 (0 : Int32).toNatClampNeg)
        let σ10 : StR := f_X3_setRegister σ9 0 σ5.2.2.2.2.2.2.1
        let x11 : Int32 := f_X3_pick 21828 x6
        let σ12 : StR := f_X3_spend σ10 x11
        σ12
    else
      let σ20 : StR := f_X3_shifted σ5 x1
      let x21 : Int32 := f_X3_pick 17201 x6
      let σ22 : StR := f_X3_spend σ20 x21
      σ22
def f_X3_jumps (σ : StR) (a1 : Int32) : Int32 :=
  if a1 = 0 then
    let x2 : Int32 := f_X3_flag σ 2
    if x2 = 0 then
      1
    else
      0
  else
    if a1 = 1 then
      let x5 : Int32 := f_X3_flag σ 2
      if x5 = 1 then
        1
      else
        0
    else
      if a1 = 2 then
        let x8 : Int32 := f_X3_flag σ 1
        if x8 = 0 then
          1
        else
          0
      else
        if a1 = 3 then
          let x11 : Int32 := f_X3_flag σ 1
          if x11 = 1 then
            1
          else
            0
        else
          if a1 = 4 then
            let x14 : Int32 := f_X3_flag σ 4
            if x14 = 1 then
              1
            else
              0
          else
            if a1 = 5 then
              let x17 : Int32 := f_X3_flag σ 4
              let x18 : Int32 := f_X3_flag σ 256
              if x17 = x18 then
                1
              else
                0
            else
              if a1 = 6 then
                let x21 : Int32 := f_X3_flag σ 4
                let x22 : Int32 := f_X3_flag σ 256
                if x21 = x22 then
                  0
                else
                  1
              else
                1
def f_X3_jump (σ : StR) (a1 : Int32) : StR :=
  let x1 : Int32 := (a1 &&& (1023 : Int32)) - ((2 : Int32) * (a1 &&& (512 : Int32)))
  let x2 : Int32 := f_X3_jumps σ ((a1 >>> ((10 : Int32) &&& 31)) &&& (7 : Int32))
  let v4 : StR := if x2 = 0 then
    σ
  else
    let σ5 : StR := f_X3_setRegister σ 0 ((σ.2.1 (0 : Int32).toNatClampNeg) + ((2 : Int32) * x1))
    σ5
  let σ5 : StR := f_X3_spend v4 2
  σ5
def f_X3_interrupt (σ : StR) : StR :=
  let v2 : Int32 := if ((σ.2.2.2.2.1 >>> ((13 : Int32) &&& 31)) &&& (1 : Int32)) = 0 then
    if ((σ.2.2.2.2.1 >>> ((12 : Int32) &&& 31)) &&& (1 : Int32)) = 0 then
      if ((σ.2.2.2.2.1 >>> ((11 : Int32) &&& 31)) &&& (1 : Int32)) = 0 then
        if ((σ.2.2.2.2.1 >>> ((10 : Int32) &&& 31)) &&& (1 : Int32)) = 0 then
          if ((σ.2.2.2.2.1 >>> ((9 : Int32) &&& 31)) &&& (1 : Int32)) = 0 then
            if ((σ.2.2.2.2.1 >>> ((8 : Int32) &&& 31)) &&& (1 : Int32)) = 0 then
              if ((σ.2.2.2.2.1 >>> ((7 : Int32) &&& 31)) &&& (1 : Int32)) = 0 then
                if ((σ.2.2.2.2.1 >>> ((6 : Int32) &&& 31)) &&& (1 : Int32)) = 0 then
                  if ((σ.2.2.2.2.1 >>> ((5 : Int32) &&& 31)) &&& (1 : Int32)) = 0 then
                    if ((σ.2.2.2.2.1 >>> ((4 : Int32) &&& 31)) &&& (1 : Int32)) = 0 then
                      if ((σ.2.2.2.2.1 >>> ((3 : Int32) &&& 31)) &&& (1 : Int32)) = 0 then
                        if ((σ.2.2.2.2.1 >>> ((2 : Int32) &&& 31)) &&& (1 : Int32)) = 0 then
                          if ((σ.2.2.2.2.1 >>> ((1 : Int32) &&& 31)) &&& (1 : Int32)) = 0 then
                            0
                          else
                            1
                        else
                          2
                      else
                        3
                    else
                      4
                  else
                    5
                else
                  6
              else
                7
            else
              8
          else
            9
        else
          10
      else
        11
    else
      12
  else
    13
  let σ3 : StR := f_X3_push (σ.1, σ.2.1, σ.2.2.1, σ.2.2.2.1, σ.2.2.2.2.1, σ.2.2.2.2.2.1, σ.2.2.2.2.2.2.1, σ.2.2.2.2.2.2.2.1, 0) (σ.2.1 (0 : Int32).toNatClampNeg)
  let σ4 : StR := f_X3_push σ3 (σ3.2.1 (2 : Int32).toNatClampNeg)
  let x5 : Int32 := σ4.2.2.2.2.1 ^^^ ((1 : Int32) <<< (v2 &&& 31))
  let x6 : Int32 := (σ4.2.1 (2 : Int32).toNatClampNeg) &&& (64 : Int32)
  let x7 : Int32 := f_X3_wordAt (σ4.1, upd σ4.2.1 ((2 : Int32).toNatClampNeg) x6, σ4.2.2.1, σ4.2.2.2.1, x5, σ4.2.2.2.2.2.1, σ4.2.2.2.2.2.2.1, σ4.2.2.2.2.2.2.2.1, σ4.2.2.2.2.2.2.2.2) ((65504 : Int32) + ((2 : Int32) * v2))
  let σ8 : StR := f_X3_setRegister (σ4.1, upd σ4.2.1 ((2 : Int32).toNatClampNeg) x6, σ4.2.2.1, σ4.2.2.2.1, x5, σ4.2.2.2.2.2.1, σ4.2.2.2.2.2.2.1, σ4.2.2.2.2.2.2.2.1, σ4.2.2.2.2.2.2.2.2) 0 x7
  let σ9 : StR := f_X3_spend σ8 6
  σ9
def f_X3_step (σ : StR) : Int32 × StR :=
  let x1 : Int32 := f_X3_flag σ 8
  if x1 = 1 then
    if σ.2.2.2.2.1 = 0 then
      let x22 : Int32 := f_X3_flag σ 16
      if x22 = 1 then
        (1, σ)
      else
        let x24 : Int32 := f_X3_wordAt σ (σ.2.1 (0 : Int32).toNatClampNeg)
        let x25 : Int32 := f_X3_isAssigned x24
        if x25 = 0 then
          (2, σ)
        else
          let x27 : Int32 := (f_X3_taken σ).1
          let σ28 : StR := (f_X3_taken σ).2
          let v30 : Int32 := if 16384 ≤ x24 then
            if (x24 &&& (64 : Int32)) = 0 then
              0
            else
              1
          else
            if 8192 ≤ x24 then
              0
            else
              if (x24 &&& (64 : Int32)) = 0 then
                0
              else
                1
          let v32 : StR := if x24 < 16384 then
            if x24 < 8192 then
              let σ34 : StR := f_X3_onePart (σ28.1, σ28.2.1, σ28.2.2.1, σ28.2.2.2.1, σ28.2.2.2.2.1, σ28.2.2.2.2.2.1, σ28.2.2.2.2.2.2.1, σ28.2.2.2.2.2.2.2.1, v30) x24
              σ34
            else
              let σ35 : StR := f_X3_jump (σ28.1, σ28.2.1, σ28.2.2.1, σ28.2.2.2.1, σ28.2.2.2.2.1, σ28.2.2.2.2.2.1, σ28.2.2.2.2.2.2.1, σ28.2.2.2.2.2.2.2.1, v30) x24
              σ35
          else
            let σ36 : StR := f_X3_twoParts (σ28.1, σ28.2.1, σ28.2.2.1, σ28.2.2.2.1, σ28.2.2.2.2.1, σ28.2.2.2.2.2.1, σ28.2.2.2.2.2.2.1, σ28.2.2.2.2.2.2.2.1, v30) x24
            σ36
          (0, v32)
    else
      let σ40 : StR := f_X3_interrupt σ
      (0, σ40)
  else
    let x3 : Int32 := f_X3_flag σ 16
    if x3 = 1 then
      (1, σ)
    else
      let x5 : Int32 := f_X3_wordAt σ (σ.2.1 (0 : Int32).toNatClampNeg)
      let x6 : Int32 := f_X3_isAssigned x5
      if x6 = 0 then
        (2, σ)
      else
        let x8 : Int32 := (f_X3_taken σ).1
        let σ9 : StR := (f_X3_taken σ).2
        let v11 : Int32 := if 16384 ≤ x5 then
          if (x5 &&& (64 : Int32)) = 0 then
            0
          else
            1
        else
          if 8192 ≤ x5 then
            0
          else
            if (x5 &&& (64 : Int32)) = 0 then
              0
            else
              1
        let v13 : StR := if x5 < 16384 then
          if x5 < 8192 then
            let σ15 : StR := f_X3_onePart (σ9.1, σ9.2.1, σ9.2.2.1, σ9.2.2.2.1, σ9.2.2.2.2.1, σ9.2.2.2.2.2.1, σ9.2.2.2.2.2.2.1, σ9.2.2.2.2.2.2.2.1, v11) x5
            σ15
          else
            let σ16 : StR := f_X3_jump (σ9.1, σ9.2.1, σ9.2.2.1, σ9.2.2.2.1, σ9.2.2.2.2.1, σ9.2.2.2.2.2.1, σ9.2.2.2.2.2.2.1, σ9.2.2.2.2.2.2.2.1, v11) x5
            σ16
        else
          let σ17 : StR := f_X3_twoParts (σ9.1, σ9.2.1, σ9.2.2.1, σ9.2.2.2.1, σ9.2.2.2.2.1, σ9.2.2.2.2.2.1, σ9.2.2.2.2.2.2.1, σ9.2.2.2.2.2.2.2.1, v11) x5
          σ17
        (0, v13)
def f_X3_poke (σ : StR) (a1 : Int32) (a2 : Int32) : Int32 × StR :=
  let x1 : Int32 := f_X3_isAddress a1
  if x1 = 0 then
    (0, σ)
  else
    if a2 < 0 then
      (0, σ)
    else
      if a2 ≤ 255 then
        let x5 : Int32 := f_X3_isMultiplier a1
        let v7 : StR := if x5 = 0 then
          let x8 : Int32 := f_X3_withByte ((σ.1 (a1 >>> ((1 : Int32) &&& 31)).toNatClampNeg) &&& (65535 : Int32)) a1 a2
          (upd σ.1 ((a1 >>> ((1 : Int32) &&& 31)).toNatClampNeg) (vp_nar .short x8.toInt16.toInt32), σ.2.1, σ.2.2.1, σ.2.2.2.1, σ.2.2.2.2.1, σ.2.2.2.2.2.1, σ.2.2.2.2.2.2.1, σ.2.2.2.2.2.2.2.1, σ.2.2.2.2.2.2.2.2)
        else
          let x9 : Int32 := f_X3_which a1
          let x10 : Int32 := f_X3_which a1
          let x11 : Int32 := f_X3_withByte (σ.2.2.1 x10.toNatClampNeg) a1 a2
          (σ.1, σ.2.1, upd σ.2.2.1 x9.toNatClampNeg x11, σ.2.2.2.1, σ.2.2.2.2.1, σ.2.2.2.2.2.1, σ.2.2.2.2.2.2.1, σ.2.2.2.2.2.2.2.1, σ.2.2.2.2.2.2.2.2)
        (1, v7)
      else
        (0, σ)
def f_X3_peek (σ : StR) (a1 : Int32) : Int32 :=
  let x1 : Int32 := f_X3_isAddress a1
  if x1 = 0 then
    (-1)
  else
    let x3 : Int32 := f_X3_byteAt σ a1
    x3
def f_X3_reg (σ : StR) (a1 : Int32) : Int32 :=
  if a1 < 0 then
    (-1)
  else
    if 16 ≤ a1 then
      (-1)
    else
      σ.2.1 a1.toNatClampNeg
def f_X3_raise (σ : StR) (a1 : Int32) : Int32 × StR :=
  if a1 < 0 then
    (0, σ)
  else
    if a1 ≤ 13 then
      let x3 : Int32 := σ.2.2.2.2.1 ||| ((1 : Int32) <<< (a1 &&& 31))
      (1, (σ.1, σ.2.1, σ.2.2.1, σ.2.2.2.1, x3, σ.2.2.2.2.2.1, σ.2.2.2.2.2.2.1, σ.2.2.2.2.2.2.2.1, σ.2.2.2.2.2.2.2.2))
    else
      (0, σ)
def f_X3_cyclesOf (σ : StR) : Int32 :=
  σ.2.2.2.2.2.1
def f_X3_pending (σ : StR) : Int32 :=
  σ.2.2.2.2.1
def f_X3_mode (σ : StR) : Int32 :=
  σ.2.2.2.1
def f_X3_init_ (σ : StR) : StR :=
  let x24 : Int32 := f_X3_wordAt (σ.1, upd (upd (upd (upd (upd (upd (upd (upd (upd (upd (upd (upd (upd (upd (upd (upd σ.2.1 ((0 : Int32).toNatClampNeg) 0) ((1 : Int32).toNatClampNeg) 0) ((2 : Int32).toNatClampNeg) 0) ((3 : Int32).toNatClampNeg) 0) ((4 : Int32).toNatClampNeg) 0) ((5 : Int32).toNatClampNeg) 0) ((6 : Int32).toNatClampNeg) 0) ((7 : Int32).toNatClampNeg) 0) ((8 : Int32).toNatClampNeg) 0) ((9 : Int32).toNatClampNeg) 0) ((10 : Int32).toNatClampNeg) 0) ((11 : Int32).toNatClampNeg) 0) ((12 : Int32).toNatClampNeg) 0) ((13 : Int32).toNatClampNeg) 0) ((14 : Int32).toNatClampNeg) 0) ((15 : Int32).toNatClampNeg) 0, upd (upd (upd (upd (upd σ.2.2.1 ((0 : Int32).toNatClampNeg) 0) ((1 : Int32).toNatClampNeg) 0) ((2 : Int32).toNatClampNeg) 0) ((3 : Int32).toNatClampNeg) 0) ((4 : Int32).toNatClampNeg) 0, 0, 0, 0, σ.2.2.2.2.2.2.1, σ.2.2.2.2.2.2.2.1, σ.2.2.2.2.2.2.2.2) 65534
  let σ25 : StR := f_X3_setRegister (σ.1, upd (upd (upd (upd (upd (upd (upd (upd (upd (upd (upd (upd (upd (upd (upd (upd σ.2.1 ((0 : Int32).toNatClampNeg) 0) ((1 : Int32).toNatClampNeg) 0) ((2 : Int32).toNatClampNeg) 0) ((3 : Int32).toNatClampNeg) 0) ((4 : Int32).toNatClampNeg) 0) ((5 : Int32).toNatClampNeg) 0) ((6 : Int32).toNatClampNeg) 0) ((7 : Int32).toNatClampNeg) 0) ((8 : Int32).toNatClampNeg) 0) ((9 : Int32).toNatClampNeg) 0) ((10 : Int32).toNatClampNeg) 0) ((11 : Int32).toNatClampNeg) 0) ((12 : Int32).toNatClampNeg) 0) ((13 : Int32).toNatClampNeg) 0) ((14 : Int32).toNatClampNeg) 0) ((15 : Int32).toNatClampNeg) 0, upd (upd (upd (upd (upd σ.2.2.1 ((0 : Int32).toNatClampNeg) 0) ((1 : Int32).toNatClampNeg) 0) ((2 : Int32).toNatClampNeg) 0) ((3 : Int32).toNatClampNeg) 0) ((4 : Int32).toNatClampNeg) 0, 0, 0, 0, σ.2.2.2.2.2.2.1, σ.2.2.2.2.2.2.2.1, σ.2.2.2.2.2.2.2.2) 0 x24
  σ25
def f_X2_loop : Nat → StC → Int32 → Int32 × StC
  | 0, σ, told => (told, σ)
  | q + 1, σ, told => if told = 0 then f_X2_loop q (f_X2_step σ).2 (f_X2_step σ).1 else (told, σ)
def f_X2_run (σ : StC) (a1 : Int32) : Int32 × StC := if a1 < 0 then ((-1), σ) else if a1 ≤ 2000 then f_X2_loop a1.toNatClampNeg σ 0 else ((-1), σ)
def f_X3_loop : Nat → StR → Int32 → Int32 × StR
  | 0, σ, told => (told, σ)
  | q + 1, σ, told => if told = 2 then (told, σ) else f_X3_loop q (f_X3_step σ).2 (f_X3_step σ).1
def f_X3_run (σ : StR) (a1 : Int32) : Int32 × StR := if a1 < 0 then ((-1), σ) else if a1 ≤ 2000 then f_X3_loop a1.toNatClampNeg σ 0 else ((-1), σ)
end
section
theorem cellOf_in (x : Int32) : vp_in (f_X0_cellOf x) 8192 := by
  unfold f_X0_cellOf
  obtain ⟨j, hj, e⟩ := pk_andE x (m := 65535) 16 (by decide)
  rw [e, pk_shrN (by omega) _ 3 (by decide)]
  exact vp_in_nI (by omega) (by omega)
theorem tpc_lt (x : Int32) : f_X2_twoPartsCycles x < 7 := by
  unfold f_X2_twoPartsCycles
  split
  · split <;> decide
  · decide
theorem rng_nI {x : Int32} {a b : Nat} (hb : b < 2 ^ 31) (h1 : (a : Int) ≤ x.toInt) (h2 : x.toInt < b) : ∃ j : Nat, a ≤ j ∧ j < b ∧ x = nI j := by
  obtain ⟨j, hj, e⟩ := vp_in_of (vp_in_iff.mpr ⟨by omega, h2⟩) hb
  refine ⟨j, ?_, hj, e⟩
  rw [e, nI_toInt (by omega)] at h1
  omega
theorem i_lt {x y : Int32} {b : Int} (hy : y.toInt = b) (h : x < y) : x.toInt < b := by
  rw [Int32.lt_iff_toInt_lt, hy] at h; exact h
theorem i_nlt {x y : Int32} {b : Int} (hy : y.toInt = b) (h : ¬ x < y) : b ≤ x.toInt := by
  rw [Int32.lt_iff_toInt_lt, hy] at h; omega
theorem i_ge {x y : Int32} {b : Int} (hy : y.toInt = b) (h : y ≤ x) : b ≤ x.toInt := by
  rw [Int32.le_iff_toInt_le, hy] at h; exact h
theorem i_nge {x y : Int32} {b : Int} (hy : y.toInt = b) (h : ¬ y ≤ x) : x.toInt < b := by
  rw [Int32.le_iff_toInt_le, hy] at h; omega
theorem which_in {x : Int32} (h : ¬ f_X3_isMultiplier x = 0) : vp_in (f_X3_which x) 5 := by
  have h0 : 304 ≤ x.toInt ∧ x.toInt < 320 := by
    unfold f_X3_isMultiplier at h
    split at h
    · exact absurd rfl h
    · rename_i c1
      split at h
      · exact absurd rfl h
      · rename_i c2
        exact ⟨i_nlt rfl c1, i_nge rfl c2⟩
  obtain ⟨j, hj1, hj2, rfl⟩ := rng_nI (a := 304) (b := 320) (by decide) h0.1 h0.2
  have key : ∀ j, j < 320 → 304 ≤ j → (decide (f_X3_which (nI j) < 0) || decide (5 ≤ (f_X3_which (nI j)).toNatClampNeg)) = false := by decide +kernel
  exact in_c (key j hj2 hj1)
theorem shr1_in {x : Int32} (h : vp_in x 65536) : vp_in (x >>> ((1 : Int32) &&& 31)) 32768 := by
  obtain ⟨j, hj, rfl⟩ := vp_in_of h (by decide)
  rw [pk_shrN (by omega) _ 1 (by decide)]
  exact vp_in_nI (by omega) (by decide)
theorem mul_in {x : Int32} (h1 : 4 ≤ x) (h2 : ¬ 7 ≤ x) : vp_in (x - 3) 5 := by
  obtain ⟨j, hj1, hj2, rfl⟩ := rng_nI (a := 4) (b := 7) (by decide) (i_ge rfl h1) (i_nge rfl h2)
  have key : ∀ j, j < 7 → 4 ≤ j → (decide (nI j - 3 < 0) || decide (5 ≤ (nI j - 3).toNatClampNeg)) = false := by decide +kernel
  exact in_c (key j hj2 hj1)
theorem wr_in1 {x : Int32} (h : vp_in x 131072) (h1 : ¬ 16 ≤ x) : vp_in x 16 := by
  rw [vp_in_iff] at h ⊢
  exact ⟨h.1, i_nge rfl h1⟩
theorem wr_in2 {x : Int32} (h : vp_in x 131072) (h1 : ¬ x < 65536) : vp_in (x - 65536) 65536 := by
  rw [vp_in_iff] at h
  obtain ⟨j, hj1, hj2, rfl⟩ := rng_nI (a := 65536) (b := 131072) (by decide) (i_nlt rfl h1) h.2
  rw [show (65536 : Int32) = nI 65536 by decide, pk_sub hj1]
  exact vp_in_nI (by omega) (by decide)
theorem isAddr_in {x : Int32} (h : ¬ f_X3_isAddress x = 0) : vp_in x 65536 := by
  unfold f_X3_isAddress at h
  split at h
  · exact absurd rfl h
  · rename_i c1
    split at h
    · exact absurd rfl h
    · rename_i c2
      exact vp_in_iff.mpr ⟨i_nlt rfl c1, i_nge rfl c2⟩
/-- two ints are one if their bits are; then a formula over bits is decided place by place -/
theorem i32_ext {x y : Int32} (h : ∀ i : Fin 32, x.toBitVec.getLsbD i.val = y.toBitVec.getLsbD i.val) : x = y :=
  Int32.toBitVec_inj.mp (BitVec.eq_of_getLsbD_eq fun i hi => h ⟨i, hi⟩)
theorem and34 (x : Int32) : x &&& 65534 = (x &&& 65534) &&& 65535 := by
  apply i32_ext
  intro i
  simp only [Int32.toBitVec_and, BitVec.getLsbD_and]
  generalize x.toBitVec.getLsbD i.val = b
  revert i b
  decide +kernel
theorem and34_in (x : Int32) : vp_in (x &&& 65534) 65536 := by rw [and34]; exact pk_andIn _ 16 (by decide) (by decide)
theorem and35_in (x : Int32) : vp_in (x &&& 65535) 65536 := pk_andIn _ 16 (by decide) (by decide)
theorem and64 (x : Int32) : x &&& 64 = (x &&& 64) &&& 65535 := by
  apply i32_ext
  intro i
  simp only [Int32.toBitVec_and, BitVec.getLsbD_and]
  generalize x.toBitVec.getLsbD i.val = b
  revert i b
  decide +kernel
theorem and64_in (x : Int32) : vp_in (x &&& 64) 65536 := by rw [and64]; exact pk_andIn _ 16 (by decide) (by decide)
/-- in range means: the mask leaves it -/
theorem in16_iff {x : Int32} : vp_in x 65536 ↔ x &&& 65535 = x := by
  constructor
  · intro h
    obtain ⟨j, hj, rfl⟩ := vp_in_of h (by decide)
    rw [pk_andN (by omega) 16 (by decide), Nat.mod_eq_of_lt (by omega)]
  · intro h
    rw [← h]; exact and35_in x
theorem at_in {x : Int32} (h : vp_in x 65536) : vp_in (65536 + x) 131072 := by
  obtain ⟨j, hj, rfl⟩ := vp_in_of h (by decide)
  rw [show (65536 : Int32) = nI 65536 by decide, nI_add]
  exact vp_in_nI (by omega) (by decide)
/-- what always holds of the reference: its registers are of 16 bits, 'where' is a place, the lines are 14 -/
def okR (σ : StR) : Prop := (∀ k, k < 16 → vp_in (σ.2.1 k) 65536) ∧ vp_in σ.2.2.2.2.2.2.2.1 131072 ∧ vp_in σ.2.2.2.2.1 16384
theorem okR_of {σ τ : StR} (h : okR σ) (h1 : τ.2.1 = σ.2.1) (h2 : τ.2.2.2.2.2.2.2.1 = σ.2.2.2.2.2.2.2.1) (h3 : τ.2.2.2.2.1 = σ.2.2.2.2.1) : okR τ := by
  unfold okR
  rw [h1, h2, h3]
  exact h
theorem rOK_upd {r : Nat → Int32} {i : Nat} {v : Int32} (h : ∀ k, k < 16 → vp_in (r k) 65536) (hv : vp_in v 65536) : ∀ k, k < 16 → vp_in (upd r i v k) 65536 := by
  intro k hk
  unfold upd
  split
  · exact hv
  · exact h k hk
theorem ok_X3_setRegister {σ : StR} {a b : Int32} (h : okR σ) : okR (f_X3_setRegister σ a b) := by
  unfold f_X3_setRegister
  split
  · exact h
  · dsimp only
    refine ⟨rOK_upd h.1 ?_, h.2⟩
    split
    · exact and34_in _
    · exact and35_in _
theorem ok_X3_spend {σ : StR} {a : Int32} (h : okR σ) : okR (f_X3_spend σ a) := okR_of h rfl rfl rfl
theorem ok_ite {c : Prop} [Decidable c] {a b : StR} (ha : okR a) (hb : okR b) : okR (if c then a else b) := by split <;> assumption
theorem ok_ite2 {c : Prop} [Decidable c] {a b : Int32 × StR} (ha : okR a.2) (hb : okR b.2) : okR (if c then a else b).2 := by split <;> assumption
theorem ok_X3_product {σ : StR} (h : okR σ) : okR (f_X3_product σ) := by
  unfold f_X3_product
  dsimp only
  apply ok_ite <;> exact okR_of h rfl rfl rfl
theorem ok_X3_multiply {σ : StR} {a b : Int32} (h : okR σ) : okR (f_X3_multiply σ a b) := by
  unfold f_X3_multiply
  dsimp only
  exact ok_ite (ok_ite (ok_X3_product (okR_of h rfl rfl rfl)) (ok_ite h (okR_of h rfl rfl rfl))) (okR_of h rfl rfl rfl)
theorem ok_X3_setByte {σ : StR} {a b : Int32} (h : okR σ) : okR (f_X3_setByte σ a b) := by
  unfold f_X3_setByte
  dsimp only
  exact ok_ite (okR_of h rfl rfl rfl) (ok_ite (ok_X3_multiply h) h)
theorem ok_X3_setWord {σ : StR} {a b : Int32} (h : okR σ) : okR (f_X3_setWord σ a b) := by
  unfold f_X3_setWord
  dsimp only
  exact ok_ite (okR_of h rfl rfl rfl) (ok_X3_multiply h)
theorem ok_X3_write {σ : StR} {a b : Int32} (h : okR σ) : okR (f_X3_write σ a b) := by
  unfold f_X3_write
  dsimp only
  exact ok_ite (ok_ite h (ok_ite (ok_X3_setWord h) (ok_X3_setByte h))) (ok_X3_setRegister h)
theorem or_in {x f : Int32} (h : vp_in x 65536) (hf : vp_in f 65536) : vp_in (x ||| f) 65536 := by
  rw [in16_iff] at h hf ⊢
  rw [← h, ← hf]
  apply i32_ext
  intro i
  simp only [Int32.toBitVec_and, Int32.toBitVec_or, BitVec.getLsbD_and, BitVec.getLsbD_or]
  generalize x.toBitVec.getLsbD i.val = b
  generalize f.toBitVec.getLsbD i.val = d
  revert i b d
  decide +kernel
theorem and_in {x f : Int32} (h : vp_in x 65536) : vp_in (x &&& f) 65536 := by
  rw [in16_iff] at h ⊢
  rw [← h]
  apply i32_ext
  intro i
  simp only [Int32.toBitVec_and, BitVec.getLsbD_and]
  generalize x.toBitVec.getLsbD i.val = b
  generalize f.toBitVec.getLsbD i.val = d
  revert i b d
  decide +kernel
theorem ok_X3_setFlag {σ : StR} {f b : Int32} (hf : vp_in f 65536) (h : okR σ) : okR (f_X3_setFlag σ f b) := by
  unfold f_X3_setFlag
  dsimp only
  refine ⟨rOK_upd h.1 ?_, h.2⟩
  split
  · exact and_in (h.1 _ (by decide))
  · exact or_in (h.1 _ (by decide)) hf
theorem ok_X3_flags {σ : StR} {a b d : Int32} (h : okR σ) : okR (f_X3_flags σ a b d) := by
  unfold f_X3_flags
  dsimp only
  exact ok_X3_setFlag (in_c (by decide)) (ok_X3_setFlag (in_c (by decide)) (ok_X3_setFlag (in_c (by decide)) (ok_X3_setFlag (in_c (by decide)) h)))
theorem ok_X3_sum {σ : StR} {a b d : Int32} (h : okR σ) : okR (f_X3_sum σ a b d).2 := by
  unfold f_X3_sum
  dsimp only
  exact ok_X3_flags h
theorem ok_X3_decimal {σ : StR} {a b : Int32} (h : okR σ) : okR (f_X3_decimal σ a b).2 := by
  unfold f_X3_decimal
  dsimp only
  exact ok_ite2 (ok_X3_flags h) (ok_X3_flags h)
theorem ok_X3_joined {σ : StR} {a b d : Int32} (h : okR σ) : okR (f_X3_joined σ a b d).2 := by
  unfold f_X3_joined
  dsimp only
  (repeat (first | with_reducible assumption | with_reducible apply ok_ite2 | with_reducible apply ok_X3_sum | with_reducible apply ok_X3_decimal | with_reducible apply ok_X3_flags))
theorem ok_X3_number {σ : StR} {a : Int32} (h : okR σ) : okR (f_X3_number σ a) := by
  unfold f_X3_number
  dsimp only
  exact ⟨h.1, in_c (i := 16) (by decide), h.2.2⟩
theorem ok_X3_register {σ : StR} {a : Int32} (ha : vp_in a 16) (h : okR σ) : okR (f_X3_register σ a) := by
  unfold f_X3_register
  dsimp only
  refine ⟨h.1, ?_, h.2.2⟩
  show vp_in (if a = 3 then 16 else a) 131072
  split
  · exact in_c (by decide)
  · rw [vp_in_iff] at ha ⊢
    omega
theorem ok_X3_memory {σ : StR} {a : Int32} (h : okR σ) : okR (f_X3_memory σ a) := by
  unfold f_X3_memory
  dsimp only
  exact ⟨h.1, at_in (and35_in _), h.2.2⟩
theorem ok_X3_taken {σ : StR} (h : okR σ) : okR (f_X3_taken σ).2 := by
  unfold f_X3_taken
  dsimp only
  exact ok_X3_setRegister h
theorem ok_X3_indexed {σ : StR} {a : Int32} (h : okR σ) : okR (f_X3_indexed σ a) := by
  unfold f_X3_indexed
  dsimp only
  exact ok_X3_memory (ok_X3_taken h)
theorem ok_X3_source {σ : StR} {a b : Int32} (hb : vp_in b 16) (h : okR σ) : okR (f_X3_source σ a b) := by
  unfold f_X3_source
  dsimp only
  (repeat (first | with_reducible assumption | with_reducible apply ok_ite | with_reducible apply ok_X3_setRegister | with_reducible apply ok_X3_number | with_reducible apply ok_X3_memory | with_reducible apply ok_X3_indexed | with_reducible apply ok_X3_register))
theorem ok_X3_push {σ : StR} {a : Int32} (h : okR σ) : okR (f_X3_push σ a) := by
  unfold f_X3_push
  dsimp only
  exact ok_X3_write (ok_X3_setRegister h)
theorem ok_X3_popped {σ : StR} (h : okR σ) : okR (f_X3_popped σ).2 := by
  unfold f_X3_popped
  dsimp only
  exact ok_X3_setRegister h
theorem ok_X3_shifted {σ : StR} {a : Int32} (h : okR σ) : okR (f_X3_shifted σ a) := by
  unfold f_X3_shifted
  dsimp only
  exact ok_ite (ok_X3_write h) (ok_X3_write (ok_X3_flags h))
theorem in15 (x : Int32) : vp_in (x &&& (15 : Int32)) 16 := pk_andIn _ 4 (by decide) (by decide)
theorem ok_X3_twoParts {σ : StR} {a : Int32} (h : okR σ) : okR (f_X3_twoParts σ a) := by
  unfold f_X3_twoParts
  dsimp only
  (repeat (first | with_reducible assumption | with_reducible apply ok_ite | with_reducible apply ok_X3_spend | with_reducible apply ok_X3_write | with_reducible apply ok_X3_joined | with_reducible apply ok_X3_indexed | with_reducible apply ok_X3_register | with_reducible apply ok_X3_source | with_reducible apply in15))
theorem ok_X3_onePart {σ : StR} {a : Int32} (h : okR σ) : okR (f_X3_onePart σ a) := by
  unfold f_X3_onePart
  dsimp only
  (repeat (first | with_reducible assumption | with_reducible apply ok_ite | with_reducible apply ok_X3_spend | with_reducible apply ok_X3_setRegister | with_reducible apply ok_X3_popped | with_reducible apply ok_X3_push | with_reducible apply ok_X3_shifted | with_reducible apply ok_X3_source | with_reducible apply in15))
theorem ok_X3_jump {σ : StR} {a : Int32} (h : okR σ) : okR (f_X3_jump σ a) := by
  unfold f_X3_jump
  dsimp only
  (repeat (first | with_reducible assumption | with_reducible apply ok_ite | with_reducible apply ok_X3_spend | with_reducible apply ok_X3_setRegister))
theorem bit0 {j : Nat} (hj : j < 2 ^ 31) {s : Int32} (k : Nat) (hs : (s.toBitVec.smod 32).toNat = k) (h : (nI j >>> s) &&& 1 = 0) : j / 2 ^ k % 2 = 0 := by
  have hle : j / 2 ^ k ≤ j := Nat.div_le_self _ _
  rw [pk_shrN hj s k hs, pk_andN (by omega) 1 (by decide)] at h
  have hlt : j / 2 ^ k % 2 ^ 1 < 2 := Nat.mod_lt _ (by decide)
  have h2 := (nI_eq (a := j / 2 ^ k % 2 ^ 1) (b := 0) (by omega) (by omega)).mp (h.trans nI_0.symm)
  exact h2
theorem half {j n : Nat} (h : j < 2 ^ (n + 1)) (b : j / 2 ^ n % 2 = 0) : j < 2 ^ n := by
  have hp : 0 < 2 ^ n := Nat.two_pow_pos n
  have h2 : j / 2 ^ n < 2 := by
    rw [Nat.div_lt_iff_lt_mul hp, Nat.mul_comm, ← Nat.pow_succ]
    exact h
  have h3 : j / 2 ^ n = 0 := by
    generalize j / 2 ^ n = q at h2 b ⊢
    omega
  rcases Nat.lt_or_ge j (2 ^ n) with q | q
  · exact q
  · have := Nat.div_pos q hp
    omega
theorem no_line {x : Int32} (hL : ¬ x = 0) (hI : vp_in x 16384) (h13 : (x >>> (13 &&& 31)) &&& 1 = 0) (h12 : (x >>> (12 &&& 31)) &&& 1 = 0) (h11 : (x >>> (11 &&& 31)) &&& 1 = 0) (h10 : (x >>> (10 &&& 31)) &&& 1 = 0) (h9 : (x >>> (9 &&& 31)) &&& 1 = 0) (h8 : (x >>> (8 &&& 31)) &&& 1 = 0) (h7 : (x >>> (7 &&& 31)) &&& 1 = 0) (h6 : (x >>> (6 &&& 31)) &&& 1 = 0) (h5 : (x >>> (5 &&& 31)) &&& 1 = 0) (h4 : (x >>> (4 &&& 31)) &&& 1 = 0) (h3 : (x >>> (3 &&& 31)) &&& 1 = 0) (h2 : (x >>> (2 &&& 31)) &&& 1 = 0) (h1 : (x >>> (1 &&& 31)) &&& 1 = 0) (h0 : (x >>> (0 &&& 31)) &&& 1 = 0) : False := by
  obtain ⟨j, hj, rfl⟩ := vp_in_of hI (by decide)
  have j13 : j < 2 ^ 13 := half (n := 13) hj (bit0 (by omega) 13 (by decide) h13)
  have j12 : j < 2 ^ 12 := half (n := 12) j13 (bit0 (by omega) 12 (by decide) h12)
  have j11 : j < 2 ^ 11 := half (n := 11) j12 (bit0 (by omega) 11 (by decide) h11)
  have j10 : j < 2 ^ 10 := half (n := 10) j11 (bit0 (by omega) 10 (by decide) h10)
  have j9 : j < 2 ^ 9 := half (n := 9) j10 (bit0 (by omega) 9 (by decide) h9)
  have j8 : j < 2 ^ 8 := half (n := 8) j9 (bit0 (by omega) 8 (by decide) h8)
  have j7 : j < 2 ^ 7 := half (n := 7) j8 (bit0 (by omega) 7 (by decide) h7)
  have j6 : j < 2 ^ 6 := half (n := 6) j7 (bit0 (by omega) 6 (by decide) h6)
  have j5 : j < 2 ^ 5 := half (n := 5) j6 (bit0 (by omega) 5 (by decide) h5)
  have j4 : j < 2 ^ 4 := half (n := 4) j5 (bit0 (by omega) 4 (by decide) h4)
  have j3 : j < 2 ^ 3 := half (n := 3) j4 (bit0 (by omega) 3 (by decide) h3)
  have j2 : j < 2 ^ 2 := half (n := 2) j3 (bit0 (by omega) 2 (by decide) h2)
  have j1 : j < 2 ^ 1 := half (n := 1) j2 (bit0 (by omega) 1 (by decide) h1)
  have j0 : j < 2 ^ 0 := half (n := 0) j1 (bit0 (by omega) 0 (by decide) h0)
  have : j = 0 := Nat.lt_one_iff.mp j0
  subst this
  exact hL nI_0
theorem ok_X3_interrupt {σ : StR} (hL : ¬ σ.2.2.2.2.1 = 0) (h : okR σ) : okR (f_X3_interrupt σ) := by
  sorry
theorem ok_X3_step {σ : StR} (h : okR σ) : okR (f_X3_step σ).2 := by
  sorry
end
section
set_option maxHeartbeats 4000000 in
set_option maxRecDepth 100000 in
theorem c_X0_isMultiplier (l : Launch) (dC : Nat → ClassId) (dI : Nat → Nat → Nat) (h : Nat → Nat) (k : Nat → ClassId) (g : Nat → Nat) (sz : Nat) (σ : StC) (a1 : Int32) : Met l yX0_isMultiplier wsX0_isMultiplier ({ frames := 0, cells := 0, slots := 0, locals := 0 }) (PcC (dC, dI) h k g [.int a1] sz σ) (va_Qi (fun r u => (r, u) = (f_X0_isMultiplier a1, σ)) (BC (dC, dI) h k (AX 5 h sz)) (AX 5 h sz)) 0 0 (AX 5 h sz) := by
  refine Met.ofW (cc := cX0_isMultiplier) (maxL := 1) (ret := (some .boolean)) (by decide) rfl ?_
  intro p e s m args below meth c s₁ B hml hv
  obtain ⟨rfl, rfl, hP, hct, hD⟩ := hv
  have hx := B.exec
  have hb := B.bytes
  have hr := B.returns
  have hts := atoms_spec (ws := wsX0_isMultiplier) B.pre
  have hown : s.vm.findClass RX0 = some m.cls := findClass_of_methodNamed B.named
  have hlocks := B.notSynchronized
  have hK := hct.1
  have hN := hct.2.1
  have hS : va_S (AX 5 h s.heap.size) s.heap s.heap [] := va_S.rf
  have hl := lv_entry ([.int a1]) (n := 1) (Nat.le_of_ble_eq_true rfl)
  rw [lg_entry_eq]
  generalize (lg_sl ([.int a1]) ++ List.replicate (1 - (lg_sl ([.int a1])).length) Slot.unset).toArray = ls at hl ⊢
  have hl : lv_has ls 1 [(0, .int a1)] := hl
  refine lv_iload_n hx hb dX0_isMultiplier_0 rfl (lv_at hl 0 rfl) ?_
  refine lv_ldc (v := 65520) hx hb hown (hts (.constant RX0 22 65520) (by decide +kernel)) dX0_isMultiplier_1 ?_
  refine lv_iand hx hb dX0_isMultiplier_3 ?_
  refine lv_sipush (v := 304) hx hb dX0_isMultiplier_4 (by decide) ?_
  refine lv_icmp_ne (tgt := 14) hx hb dX0_isMultiplier_7 (by decide) (fun c1 => ?_) (fun c1 => ?_)
  · refine lv_iconst (v := 0) hx hb dX0_isMultiplier_14 (by decide) ?_
    exact retC_zp hx hb hr hlocks rfl (by exact if_neg c1) hP hD hS dX0_isMultiplier_15
  · refine lv_iconst (v := 1) hx hb dX0_isMultiplier_10 (by decide) ?_
    refine lv_goto (tgt := 15) hx hb dX0_isMultiplier_11 (by decide) ?_
    exact retC_zp hx hb hr hlocks rfl (by exact if_pos c1) hP hD hS dX0_isMultiplier_15

set_option maxHeartbeats 4000000 in
set_option maxRecDepth 100000 in
theorem c_X0_slotOf (l : Launch) (dC : Nat → ClassId) (dI : Nat → Nat → Nat) (h : Nat → Nat) (k : Nat → ClassId) (g : Nat → Nat) (sz : Nat) (σ : StC) (a1 : Int32) : Met l yX0_slotOf wsX0_slotOf ({ frames := 0, cells := 0, slots := 0, locals := 0 }) (PcC (dC, dI) h k g [.int a1] sz σ) (va_Qi (fun r u => (r, u) = (f_X0_slotOf a1, σ)) (BC (dC, dI) h k (AX 5 h sz)) (AX 5 h sz)) 0 0 (AX 5 h sz) := by
  refine Met.ofW (cc := cX0_slotOf) (maxL := 1) (ret := (some .int)) (by decide) rfl ?_
  intro p e s m args below meth c s₁ B hml hv
  obtain ⟨rfl, rfl, hP, hct, hD⟩ := hv
  have hx := B.exec
  have hb := B.bytes
  have hr := B.returns
  have hts := atoms_spec (ws := wsX0_slotOf) B.pre
  have hown : s.vm.findClass RX0 = some m.cls := findClass_of_methodNamed B.named
  have hlocks := B.notSynchronized
  have hK := hct.1
  have hN := hct.2.1
  have hS : va_S (AX 5 h s.heap.size) s.heap s.heap [] := va_S.rf
  have hl := lv_entry ([.int a1]) (n := 1) (Nat.le_of_ble_eq_true rfl)
  rw [lg_entry_eq]
  generalize (lg_sl ([.int a1]) ++ List.replicate (1 - (lg_sl ([.int a1])).length) Slot.unset).toArray = ls at hl ⊢
  have hl : lv_has ls 1 [(0, .int a1)] := hl
  refine lv_iload_n hx hb dX0_slotOf_0 rfl (lv_at hl 0 rfl) ?_
  refine lv_iconst (v := 1) hx hb dX0_slotOf_1 (by decide) ?_
  refine lv_ishr hx hb dX0_slotOf_2 ?_
  refine lv_bipush (v := 7) hx hb dX0_slotOf_3 (by decide) ?_
  refine lv_iand hx hb dX0_slotOf_5 ?_
  exact retC_ip hx hb hr hlocks (by exact rfl) hP hD hS dX0_slotOf_6

set_option maxHeartbeats 4000000 in
set_option maxRecDepth 100000 in
theorem c_X0_cellOf (l : Launch) (dC : Nat → ClassId) (dI : Nat → Nat → Nat) (h : Nat → Nat) (k : Nat → ClassId) (g : Nat → Nat) (sz : Nat) (σ : StC) (a1 : Int32) : Met l yX0_cellOf wsX0_cellOf ({ frames := 0, cells := 0, slots := 0, locals := 0 }) (PcC (dC, dI) h k g [.int a1] sz σ) (va_Qi (fun r u => (r, u) = (f_X0_cellOf a1, σ)) (BC (dC, dI) h k (AX 5 h sz)) (AX 5 h sz)) 0 0 (AX 5 h sz) := by
  refine Met.ofW (cc := cX0_cellOf) (maxL := 1) (ret := (some .int)) (by decide) rfl ?_
  intro p e s m args below meth c s₁ B hml hv
  obtain ⟨rfl, rfl, hP, hct, hD⟩ := hv
  have hx := B.exec
  have hb := B.bytes
  have hr := B.returns
  have hts := atoms_spec (ws := wsX0_cellOf) B.pre
  have hown : s.vm.findClass RX0 = some m.cls := findClass_of_methodNamed B.named
  have hlocks := B.notSynchronized
  have hK := hct.1
  have hN := hct.2.1
  have hS : va_S (AX 5 h s.heap.size) s.heap s.heap [] := va_S.rf
  have hl := lv_entry ([.int a1]) (n := 1) (Nat.le_of_ble_eq_true rfl)
  rw [lg_entry_eq]
  generalize (lg_sl ([.int a1]) ++ List.replicate (1 - (lg_sl ([.int a1])).length) Slot.unset).toArray = ls at hl ⊢
  have hl : lv_has ls 1 [(0, .int a1)] := hl
  refine lv_iload_n hx hb dX0_cellOf_0 rfl (lv_at hl 0 rfl) ?_
  refine lv_ldc (v := 65535) hx hb hown (hts (.constant RX0 37 65535) (by decide +kernel)) dX0_cellOf_1 ?_
  refine lv_iand hx hb dX0_cellOf_3 ?_
  refine lv_iconst (v := 3) hx hb dX0_cellOf_4 (by decide) ?_
  refine lv_ishr hx hb dX0_cellOf_5 ?_
  exact retC_ip hx hb hr hlocks (by exact rfl) hP hD hS dX0_cellOf_6

set_option maxHeartbeats 4000000 in
set_option maxRecDepth 100000 in
theorem c_X1_wordAtSlot (l : Launch) (dC : Nat → ClassId) (dI : Nat → Nat → Nat) (h : Nat → Nat) (k : Nat → ClassId) (g : Nat → Nat) (sz : Nat) (σ : StC) (a1 : Int32) : Met l yX1_wordAtSlot wsX1_wordAtSlot ({ frames := 0, cells := 0, slots := 0, locals := 0 }) (PcC (dC, dI) h k g [.ref (h 4), .int a1] sz σ) (va_Qi (fun r u => (r, u) = (f_X1_wordAtSlot σ a1, σ)) (BC (dC, dI) h k (AX 5 h sz)) (AX 5 h sz)) 0 0 (AX 5 h sz) := by
  refine Met.ofW (cc := cX1_wordAtSlot) (maxL := 2) (ret := (some .int)) (by decide) rfl ?_
  intro p e s m args below meth c s₁ B hml hv
  obtain ⟨rfl, rfl, hP, hct, hD⟩ := hv
  have hx := B.exec
  have hb := B.bytes
  have hr := B.returns
  have hts := atoms_spec (ws := wsX1_wordAtSlot) B.pre
  have hown : s.vm.findClass RX1 = some m.cls := findClass_of_methodNamed B.named
  have hlocks := B.notSynchronized
  have hK := hct.1
  have hN := hct.2.1
  have hS : va_S (AX 5 h s.heap.size) s.heap s.heap [] := va_S.rf
  have hl := lv_entry ([.ref (h 4), .int a1]) (n := 2) (Nat.le_of_ble_eq_true rfl)
  rw [lg_entry_eq]
  generalize (lg_sl ([.ref (h 4), .int a1]) ++ List.replicate (2 - (lg_sl ([.ref (h 4), .int a1])).length) Slot.unset).toArray = ls at hl ⊢
  have hl : lv_has ls 2 [(0, .ref (h 4)), (1, .int a1)] := hl
  refine lv_iload_n hx hb dX1_wordAtSlot_0 rfl (lv_at hl 1 rfl) ?_
  rcases Classical.em (a1 = 4) with c1 | c1
  · refine lv_tableIn (tgt := 32) hx hb dX1_wordAtSlot_1 (by rw [c1]; decide) (by rw [c1]; decide) (by rw [c1]; rfl) (by decide) ?_
    refine lv_aload_n hx hb dX1_wordAtSlot_32 rfl (lv_at hl 0 rfl) ?_
    refine va_get (D := (dC, dI)) (ci := 1) (v := .int σ.2.2.2.2.2.1) (C := RX1) (T := TX1) (N := 6) hx hb hts (fun _ h9 => List.mem_cons_of_mem _ (List.mem_append_right _ h9)) hown hK hP 4 rfl rfl 1 (by decide) (hts (.fieldLink RX1 13 "LowPowerCpu$Multiplier" "two" "I") (by decide +kernel)) (fun _ h9 => h9) rfl dX1_wordAtSlot_33 ?_
    exact retC_ip hx hb hr hlocks (by exact if_pos c1) hP hD hS dX1_wordAtSlot_36
  · skip
    rcases Classical.em (a1 = 5) with c2 | c2
    · refine lv_tableIn (tgt := 37) hx hb dX1_wordAtSlot_1 (by rw [c2]; decide) (by rw [c2]; decide) (by rw [c2]; rfl) (by decide) ?_
      refine lv_aload_n hx hb dX1_wordAtSlot_37 rfl (lv_at hl 0 rfl) ?_
      refine va_get (D := (dC, dI)) (ci := 1) (v := .int σ.2.2.2.2.2.2.1) (C := RX1) (T := TX1) (N := 6) hx hb hts (fun _ h9 => List.mem_cons_of_mem _ (List.mem_append_right _ h9)) hown hK hP 4 rfl rfl 2 (by decide) (hts (.fieldLink RX1 16 "LowPowerCpu$Multiplier" "low" "I") (by decide +kernel)) (fun _ h9 => h9) rfl dX1_wordAtSlot_38 ?_
      exact retC_ip hx hb hr hlocks (by exact (if_neg c1).trans (if_pos c2)) hP hD hS dX1_wordAtSlot_41
    · skip
      rcases Classical.em (a1 = 6) with c3 | c3
      · refine lv_tableIn (tgt := 42) hx hb dX1_wordAtSlot_1 (by rw [c3]; decide) (by rw [c3]; decide) (by rw [c3]; rfl) (by decide) ?_
        refine lv_aload_n hx hb dX1_wordAtSlot_42 rfl (lv_at hl 0 rfl) ?_
        refine va_get (D := (dC, dI)) (ci := 1) (v := .int σ.2.2.2.2.2.2.2.1) (C := RX1) (T := TX1) (N := 6) hx hb hts (fun _ h9 => List.mem_cons_of_mem _ (List.mem_append_right _ h9)) hown hK hP 4 rfl rfl 3 (by decide) (hts (.fieldLink RX1 19 "LowPowerCpu$Multiplier" "high" "I") (by decide +kernel)) (fun _ h9 => h9) rfl dX1_wordAtSlot_43 ?_
        exact retC_ip hx hb hr hlocks (by exact (if_neg c1).trans ((if_neg c2).trans (if_pos c3))) hP hD hS dX1_wordAtSlot_46
      · skip
        rcases Classical.em (a1 = 7) with c4 | c4
        · refine lv_tableIn (tgt := 47) hx hb dX1_wordAtSlot_1 (by rw [c4]; decide) (by rw [c4]; decide) (by rw [c4]; rfl) (by decide) ?_
          refine lv_aload_n hx hb dX1_wordAtSlot_47 rfl (lv_at hl 0 rfl) ?_
          refine va_get (D := (dC, dI)) (ci := 1) (v := .int σ.2.2.2.2.2.2.2.2.1) (C := RX1) (T := TX1) (N := 6) hx hb hts (fun _ h9 => List.mem_cons_of_mem _ (List.mem_append_right _ h9)) hown hK hP 4 rfl rfl 4 (by decide) (hts (.fieldLink RX1 22 "LowPowerCpu$Multiplier" "extra" "I") (by decide +kernel)) (fun _ h9 => h9) rfl dX1_wordAtSlot_48 ?_
          exact retC_ip hx hb hr hlocks (by exact (if_neg c1).trans ((if_neg c2).trans ((if_neg c3).trans (if_pos c4)))) hP hD hS dX1_wordAtSlot_51
        · skip
          have nc1 := i32ne (n := 4) (by decide) c1
          have nc2 := i32ne (n := 5) (by decide) c2
          have nc3 := i32ne (n := 6) (by decide) c3
          have nc4 := i32ne (n := 7) (by decide) c4
          refine lv_tableOut (tgt := 52) hx hb dX1_wordAtSlot_1 (by omega) (by decide) ?_
          refine lv_aload_n hx hb dX1_wordAtSlot_52 rfl (lv_at hl 0 rfl) ?_
          refine va_get (D := (dC, dI)) (ci := 1) (v := .int σ.2.2.2.2.1) (C := RX1) (T := TX1) (N := 6) hx hb hts (fun _ h9 => List.mem_cons_of_mem _ (List.mem_append_right _ h9)) hown hK hP 4 rfl rfl 0 (by decide) (hts (.fieldLink RX1 7 "LowPowerCpu$Multiplier" "one" "I") (by decide +kernel)) (fun _ h9 => h9) rfl dX1_wordAtSlot_53 ?_
          exact retC_ip hx hb hr hlocks (by exact (if_neg c1).trans ((if_neg c2).trans ((if_neg c3).trans (if_neg c4)))) hP hD hS dX1_wordAtSlot_56

set_option maxHeartbeats 4000000 in
set_option maxRecDepth 100000 in
theorem c_X1_placeWordAtSlot (l : Launch) (dC : Nat → ClassId) (dI : Nat → Nat → Nat) (h : Nat → Nat) (k : Nat → ClassId) (g : Nat → Nat) (sz : Nat) (σ : StC) (a1 : Int32) (a2 : Int32) : Met l yX1_placeWordAtSlot wsX1_placeWordAtSlot ({ frames := 0, cells := 0, slots := 0, locals := 0 }) (PcC (dC, dI) h k g [.ref (h 4), .int a1, .int a2] sz σ) (va_Qv (fun u => u = f_X1_placeWordAtSlot σ a1 a2) (BC (dC, dI) h k (AX 5 h sz)) (AX 5 h sz)) 0 0 (AX 5 h sz) := by
  refine Met.ofW (cc := cX1_placeWordAtSlot) (maxL := 3) (ret := none) (by decide) rfl ?_
  intro p e s m args below meth c s₁ B hml hv
  obtain ⟨rfl, rfl, hP, hct, hD⟩ := hv
  have hx := B.exec
  have hb := B.bytes
  have hr := B.returns
  have hts := atoms_spec (ws := wsX1_placeWordAtSlot) B.pre
  have hown : s.vm.findClass RX1 = some m.cls := findClass_of_methodNamed B.named
  have hlocks := B.notSynchronized
  have hK := hct.1
  have hN := hct.2.1
  have hS : va_S (AX 5 h s.heap.size) s.heap s.heap [] := va_S.rf
  have hl := lv_entry ([.ref (h 4), .int a1, .int a2]) (n := 3) (Nat.le_of_ble_eq_true rfl)
  rw [lg_entry_eq]
  generalize (lg_sl ([.ref (h 4), .int a1, .int a2]) ++ List.replicate (3 - (lg_sl ([.ref (h 4), .int a1, .int a2])).length) Slot.unset).toArray = ls at hl ⊢
  have hl : lv_has ls 3 [(0, .ref (h 4)), (1, .int a1), (2, .int a2)] := hl
  refine lv_iload_n hx hb dX1_placeWordAtSlot_0 rfl (lv_at hl 1 rfl) ?_
  rcases Classical.em (a1 = 4) with c1 | c1
  · refine lv_tableIn (tgt := 32) hx hb dX1_placeWordAtSlot_1 (by rw [c1]; decide) (by rw [c1]; decide) (by rw [c1]; rfl) (by decide) ?_
    refine lv_aload_n hx hb dX1_placeWordAtSlot_32 rfl (lv_at hl 0 rfl) ?_
    refine lv_iload_n hx hb dX1_placeWordAtSlot_33 rfl (lv_at hl 2 rfl) ?_
    refine va_put (D := (dC, dI)) (ci := 1) (v := .int a2) (ty := .int) (C := RX1) (T := TX1) (N := 6) hx hb hts (fun _ h9 => List.mem_cons_of_mem _ (List.mem_append_right _ h9)) tyX1 tyX1_ok nmX1 hown hK hP hD hS 4 rfl rfl 1 (by decide) (hts (.fieldLink RX1 13 "LowPowerCpu$Multiplier" "two" "I") (by decide +kernel)) (fun _ h9 => h9) rfl (by decide +kernel) rfl rfl (Nat.le_of_ble_eq_true rfl) dX1_placeWordAtSlot_34 (fun H locs hP hD hS => ?_)
    have hP : va_P (dC, dI) vwCl (wsC h k (σ.1, σ.2.1, σ.2.2.1, σ.2.2.2.1, σ.2.2.2.2.1, a2, σ.2.2.2.2.2.2.1, σ.2.2.2.2.2.2.2.1, σ.2.2.2.2.2.2.2.2.1, σ.2.2.2.2.2.2.2.2.2)) H := hP
    have hD : va_D (AX 5 h s.heap.size) (wsC h k (σ.1, σ.2.1, σ.2.2.1, σ.2.2.2.1, σ.2.2.2.2.1, a2, σ.2.2.2.2.2.2.1, σ.2.2.2.2.2.2.2.1, σ.2.2.2.2.2.2.2.2.1, σ.2.2.2.2.2.2.2.2.2)) := hD
    refine lv_goto (tgt := 69) hx hb dX1_placeWordAtSlot_37 (by decide) ?_
    exact retC_v hx hb hr hlocks (by exact if_pos c1) hP hD hS dX1_placeWordAtSlot_69
  · skip
    rcases Classical.em (a1 = 5) with c2 | c2
    · refine lv_tableIn (tgt := 40) hx hb dX1_placeWordAtSlot_1 (by rw [c2]; decide) (by rw [c2]; decide) (by rw [c2]; rfl) (by decide) ?_
      refine lv_aload_n hx hb dX1_placeWordAtSlot_40 rfl (lv_at hl 0 rfl) ?_
      refine lv_iload_n hx hb dX1_placeWordAtSlot_41 rfl (lv_at hl 2 rfl) ?_
      refine va_put (D := (dC, dI)) (ci := 1) (v := .int a2) (ty := .int) (C := RX1) (T := TX1) (N := 6) hx hb hts (fun _ h9 => List.mem_cons_of_mem _ (List.mem_append_right _ h9)) tyX1 tyX1_ok nmX1 hown hK hP hD hS 4 rfl rfl 2 (by decide) (hts (.fieldLink RX1 16 "LowPowerCpu$Multiplier" "low" "I") (by decide +kernel)) (fun _ h9 => h9) rfl (by decide +kernel) rfl rfl (Nat.le_of_ble_eq_true rfl) dX1_placeWordAtSlot_42 (fun H locs hP hD hS => ?_)
      have hP : va_P (dC, dI) vwCl (wsC h k (σ.1, σ.2.1, σ.2.2.1, σ.2.2.2.1, σ.2.2.2.2.1, σ.2.2.2.2.2.1, a2, σ.2.2.2.2.2.2.2.1, σ.2.2.2.2.2.2.2.2.1, σ.2.2.2.2.2.2.2.2.2)) H := hP
      have hD : va_D (AX 5 h s.heap.size) (wsC h k (σ.1, σ.2.1, σ.2.2.1, σ.2.2.2.1, σ.2.2.2.2.1, σ.2.2.2.2.2.1, a2, σ.2.2.2.2.2.2.2.1, σ.2.2.2.2.2.2.2.2.1, σ.2.2.2.2.2.2.2.2.2)) := hD
      refine lv_goto (tgt := 69) hx hb dX1_placeWordAtSlot_45 (by decide) ?_
      exact retC_v hx hb hr hlocks (by exact (if_neg c1).trans (if_pos c2)) hP hD hS dX1_placeWordAtSlot_69
    · skip
      rcases Classical.em (a1 = 6) with c3 | c3
      · refine lv_tableIn (tgt := 48) hx hb dX1_placeWordAtSlot_1 (by rw [c3]; decide) (by rw [c3]; decide) (by rw [c3]; rfl) (by decide) ?_
        refine lv_aload_n hx hb dX1_placeWordAtSlot_48 rfl (lv_at hl 0 rfl) ?_
        refine lv_iload_n hx hb dX1_placeWordAtSlot_49 rfl (lv_at hl 2 rfl) ?_
        refine va_put (D := (dC, dI)) (ci := 1) (v := .int a2) (ty := .int) (C := RX1) (T := TX1) (N := 6) hx hb hts (fun _ h9 => List.mem_cons_of_mem _ (List.mem_append_right _ h9)) tyX1 tyX1_ok nmX1 hown hK hP hD hS 4 rfl rfl 3 (by decide) (hts (.fieldLink RX1 19 "LowPowerCpu$Multiplier" "high" "I") (by decide +kernel)) (fun _ h9 => h9) rfl (by decide +kernel) rfl rfl (Nat.le_of_ble_eq_true rfl) dX1_placeWordAtSlot_50 (fun H locs hP hD hS => ?_)
        have hP : va_P (dC, dI) vwCl (wsC h k (σ.1, σ.2.1, σ.2.2.1, σ.2.2.2.1, σ.2.2.2.2.1, σ.2.2.2.2.2.1, σ.2.2.2.2.2.2.1, a2, σ.2.2.2.2.2.2.2.2.1, σ.2.2.2.2.2.2.2.2.2)) H := hP
        have hD : va_D (AX 5 h s.heap.size) (wsC h k (σ.1, σ.2.1, σ.2.2.1, σ.2.2.2.1, σ.2.2.2.2.1, σ.2.2.2.2.2.1, σ.2.2.2.2.2.2.1, a2, σ.2.2.2.2.2.2.2.2.1, σ.2.2.2.2.2.2.2.2.2)) := hD
        refine lv_goto (tgt := 69) hx hb dX1_placeWordAtSlot_53 (by decide) ?_
        exact retC_v hx hb hr hlocks (by exact (if_neg c1).trans ((if_neg c2).trans (if_pos c3))) hP hD hS dX1_placeWordAtSlot_69
      · skip
        rcases Classical.em (a1 = 7) with c4 | c4
        · refine lv_tableIn (tgt := 56) hx hb dX1_placeWordAtSlot_1 (by rw [c4]; decide) (by rw [c4]; decide) (by rw [c4]; rfl) (by decide) ?_
          refine lv_aload_n hx hb dX1_placeWordAtSlot_56 rfl (lv_at hl 0 rfl) ?_
          refine lv_iload_n hx hb dX1_placeWordAtSlot_57 rfl (lv_at hl 2 rfl) ?_
          refine va_put (D := (dC, dI)) (ci := 1) (v := .int a2) (ty := .int) (C := RX1) (T := TX1) (N := 6) hx hb hts (fun _ h9 => List.mem_cons_of_mem _ (List.mem_append_right _ h9)) tyX1 tyX1_ok nmX1 hown hK hP hD hS 4 rfl rfl 4 (by decide) (hts (.fieldLink RX1 22 "LowPowerCpu$Multiplier" "extra" "I") (by decide +kernel)) (fun _ h9 => h9) rfl (by decide +kernel) rfl rfl (Nat.le_of_ble_eq_true rfl) dX1_placeWordAtSlot_58 (fun H locs hP hD hS => ?_)
          have hP : va_P (dC, dI) vwCl (wsC h k (σ.1, σ.2.1, σ.2.2.1, σ.2.2.2.1, σ.2.2.2.2.1, σ.2.2.2.2.2.1, σ.2.2.2.2.2.2.1, σ.2.2.2.2.2.2.2.1, a2, σ.2.2.2.2.2.2.2.2.2)) H := hP
          have hD : va_D (AX 5 h s.heap.size) (wsC h k (σ.1, σ.2.1, σ.2.2.1, σ.2.2.2.1, σ.2.2.2.2.1, σ.2.2.2.2.2.1, σ.2.2.2.2.2.2.1, σ.2.2.2.2.2.2.2.1, a2, σ.2.2.2.2.2.2.2.2.2)) := hD
          refine lv_goto (tgt := 69) hx hb dX1_placeWordAtSlot_61 (by decide) ?_
          exact retC_v hx hb hr hlocks (by exact (if_neg c1).trans ((if_neg c2).trans ((if_neg c3).trans (if_pos c4)))) hP hD hS dX1_placeWordAtSlot_69
        · skip
          have nc1 := i32ne (n := 4) (by decide) c1
          have nc2 := i32ne (n := 5) (by decide) c2
          have nc3 := i32ne (n := 6) (by decide) c3
          have nc4 := i32ne (n := 7) (by decide) c4
          refine lv_tableOut (tgt := 64) hx hb dX1_placeWordAtSlot_1 (by omega) (by decide) ?_
          refine lv_aload_n hx hb dX1_placeWordAtSlot_64 rfl (lv_at hl 0 rfl) ?_
          refine lv_iload_n hx hb dX1_placeWordAtSlot_65 rfl (lv_at hl 2 rfl) ?_
          refine va_put (D := (dC, dI)) (ci := 1) (v := .int a2) (ty := .int) (C := RX1) (T := TX1) (N := 6) hx hb hts (fun _ h9 => List.mem_cons_of_mem _ (List.mem_append_right _ h9)) tyX1 tyX1_ok nmX1 hown hK hP hD hS 4 rfl rfl 0 (by decide) (hts (.fieldLink RX1 7 "LowPowerCpu$Multiplier" "one" "I") (by decide +kernel)) (fun _ h9 => h9) rfl (by decide +kernel) rfl rfl (Nat.le_of_ble_eq_true rfl) dX1_placeWordAtSlot_66 (fun H locs hP hD hS => ?_)
          have hP : va_P (dC, dI) vwCl (wsC h k (σ.1, σ.2.1, σ.2.2.1, σ.2.2.2.1, a2, σ.2.2.2.2.2.1, σ.2.2.2.2.2.2.1, σ.2.2.2.2.2.2.2.1, σ.2.2.2.2.2.2.2.2.1, σ.2.2.2.2.2.2.2.2.2)) H := hP
          have hD : va_D (AX 5 h s.heap.size) (wsC h k (σ.1, σ.2.1, σ.2.2.1, σ.2.2.2.1, a2, σ.2.2.2.2.2.1, σ.2.2.2.2.2.2.1, σ.2.2.2.2.2.2.2.1, σ.2.2.2.2.2.2.2.2.1, σ.2.2.2.2.2.2.2.2.2)) := hD
          exact retC_v hx hb hr hlocks (by exact (if_neg c1).trans ((if_neg c2).trans ((if_neg c3).trans (if_neg c4)))) hP hD hS dX1_placeWordAtSlot_69

set_option maxHeartbeats 4000000 in
set_option maxRecDepth 100000 in
theorem c_X1_multiply (l : Launch) (dC : Nat → ClassId) (dI : Nat → Nat → Nat) (h : Nat → Nat) (k : Nat → ClassId) (g : Nat → Nat) (sz : Nat) (σ : StC) : Met l yX1_multiply wsX1_multiply ({ frames := 0, cells := 0, slots := 0, locals := 0 }) (PcC (dC, dI) h k g [.ref (h 4)] sz σ) (va_Qv (fun u => u = f_X1_multiply σ) (BC (dC, dI) h k (AX 5 h sz)) (AX 5 h sz)) 0 0 (AX 5 h sz) := by
  refine Met.ofW (cc := cX1_multiply) (maxL := 9) (ret := none) (by decide) rfl ?_
  intro p e s m args below meth c s₁ B hml hv
  obtain ⟨rfl, rfl, hP, hct, hD⟩ := hv
  have hx := B.exec
  have hb := B.bytes
  have hr := B.returns
  have hts := atoms_spec (ws := wsX1_multiply) B.pre
  have hown : s.vm.findClass RX1 = some m.cls := findClass_of_methodNamed B.named
  have hlocks := B.notSynchronized
  have hK := hct.1
  have hN := hct.2.1
  have hS : va_S (AX 5 h s.heap.size) s.heap s.heap [] := va_S.rf
  have hl := lv_entry ([.ref (h 4)]) (n := 9) (Nat.le_of_ble_eq_true rfl)
  rw [lg_entry_eq]
  generalize (lg_sl ([.ref (h 4)]) ++ List.replicate (9 - (lg_sl ([.ref (h 4)])).length) Slot.unset).toArray = ls at hl ⊢
  have hl : lv_has ls 9 [(0, .ref (h 4))] := hl
  refine lv_aload_n hx hb dX1_multiply_0 rfl (lv_at hl 0 rfl) ?_
  refine va_get (D := (dC, dI)) (ci := 1) (v := .int σ.2.2.2.2.2.2.2.2.2) (C := RX1) (T := TX1) (N := 6) hx hb hts (fun _ h9 => List.mem_cons_of_mem _ (List.mem_append_right _ h9)) hown hK hP 4 rfl rfl 5 (by decide) (hts (.fieldLink RX1 25 "LowPowerCpu$Multiplier" "way" "I") (by decide +kernel)) (fun _ h9 => h9) rfl dX1_multiply_1 ?_
  refine lv_iconst (v := 1) hx hb dX1_multiply_4 (by decide) ?_
  refine lv_iand hx hb dX1_multiply_5 ?_
  refine wj (α := Int32) (D := (dC, dI)) (cl := vwCl) (A := AX 5 h s.heap.size) (H0 := s.heap) (if (σ.2.2.2.2.2.2.2.2.2 &&& (1 : Int32)) = 0 then 0 else 1) (fun v2 => wsC h k σ) (fun v2 => [(0, .ref (h 4))]) 9 (fun v2 ls => F0 m 14 ls [.int v2]) ?_ ?_
  · intro v2 ls H locs ev2 hl hP hD hS
    try dsimp only at hl hP hD ⊢
    refine lv_istore_n (lv' := [(1, .int v2), (0, .ref (h 4))]) hx hb dX1_multiply_14 rfl hl (by decide) rfl (fun ls hl => ?_)
    refine lv_aload_n hx hb dX1_multiply_15 rfl (lv_at hl 1 rfl) ?_
    refine va_get (D := (dC, dI)) (ci := 1) (v := .int σ.2.2.2.2.2.2.2.2.2) (C := RX1) (T := TX1) (N := 6) hx hb hts (fun _ h9 => List.mem_cons_of_mem _ (List.mem_append_right _ h9)) hown hK hP 4 rfl rfl 5 (by decide) (hts (.fieldLink RX1 25 "LowPowerCpu$Multiplier" "way" "I") (by decide +kernel)) (fun _ h9 => h9) rfl dX1_multiply_16 ?_
    refine lv_iconst (v := 2) hx hb dX1_multiply_19 (by decide) ?_
    refine lv_iand hx hb dX1_multiply_20 ?_
    refine wj (α := Int32) (D := (dC, dI)) (cl := vwCl) (A := AX 5 h s.heap.size) (H0 := s.heap) (if (σ.2.2.2.2.2.2.2.2.2 &&& (2 : Int32)) = 0 then 0 else 1) (fun v4 => wsC h k σ) (fun v4 => [(1, .int v2), (0, .ref (h 4))]) 9 (fun v4 ls => F0 m 29 ls [.int v4]) ?_ ?_
    · intro v4 ls H locs ev4 hl hP hD hS
      try dsimp only at hl hP hD ⊢
      refine lv_istore_n (lv' := [(2, .int v4), (1, .int v2), (0, .ref (h 4))]) hx hb dX1_multiply_29 rfl hl (by decide) rfl (fun ls hl => ?_)
      refine lv_iload_n hx hb dX1_multiply_30 rfl (lv_at hl 1 rfl) ?_
      refine wj (α := Int64) (D := (dC, dI)) (cl := vwCl) (A := AX 5 h s.heap.size) (H0 := s.heap) (if v2 = 0 then σ.2.2.2.2.1.toInt64 * σ.2.2.2.2.2.1.toInt64 else σ.2.2.2.2.1.toInt16.toInt32.toInt64 * σ.2.2.2.2.2.1.toInt16.toInt32.toInt64) (fun v6 => wsC h k σ) (fun v6 => [(2, .int v4), (1, .int v2), (0, .ref (h 4))]) 9 (fun v6 ls => F0 m 61 ls [.long v6]) ?_ ?_
      · intro v6 ls H locs ev6 hl hP hD hS
        try dsimp only at hl hP hD ⊢
        refine lv_lstore_n (lv' := [(3, .long v6), (2, .int v4), (1, .int v2), (0, .ref (h 4))]) hx hb dX1_multiply_61 rfl hl (by decide) rfl (fun ls hl => ?_)
        refine lv_iload_n hx hb dX1_multiply_62 rfl (lv_at hl 1 rfl) ?_
        refine wj (α := Int64) (D := (dC, dI)) (cl := vwCl) (A := AX 5 h s.heap.size) (H0 := s.heap) (if v4 = 0 then 0 else (σ.2.2.2.2.2.2.2.1.toInt64 <<< ((16 : Int32).toInt64 &&& 63)) ||| σ.2.2.2.2.2.2.1.toInt64) (fun v8 => wsC h k σ) (fun v8 => [(3, .long v6), (2, .int v4), (1, .int v2), (0, .ref (h 4))]) 9 (fun v8 ls => F0 m 84 ls [.long v8]) ?_ ?_
        · intro v8 ls H locs ev8 hl hP hD hS
          try dsimp only at hl hP hD ⊢
          refine lv_lstore (lv' := [(5, .long v8), (3, .long v6), (2, .int v4), (1, .int v2), (0, .ref (h 4))]) hx hb dX1_multiply_84 hl (by decide) rfl (fun ls hl => ?_)
          refine lv_lload hx hb dX1_multiply_86 (lv_at hl 0 rfl) ?_
          refine lv_lload_n hx hb dX1_multiply_88 rfl (lv_at hl 1 rfl) ?_
          refine lv_ladd hx hb dX1_multiply_89 ?_
          refine lv_topl (fun x9 ex9 => ?_)
          refine lv_lstore (lv' := [(7, .long x9), (5, .long v8), (3, .long v6), (2, .int v4), (1, .int v2), (0, .ref (h 4))]) hx hb dX1_multiply_90 hl (by decide) rfl (fun ls hl => ?_)
          refine lv_aload_n hx hb dX1_multiply_92 rfl (lv_at hl 5 rfl) ?_
          refine lv_lload hx hb dX1_multiply_93 (lv_at hl 0 rfl) ?_
          refine lv_bipush (v := 16) hx hb dX1_multiply_95 (by decide) ?_
          refine lv_lshr hx hb dX1_multiply_97 rfl ?_
          refine lv_l2i hx hb dX1_multiply_98 rfl ?_
          refine lv_ldc (v := 65535) hx hb hown (hts (.constant RX1 35 65535) (by decide +kernel)) dX1_multiply_99 ?_
          refine lv_iand hx hb dX1_multiply_101 ?_
          refine lv_topi (fun x10 ex10 => ?_)
          refine va_put (D := (dC, dI)) (ci := 1) (v := .int x10) (ty := .int) (C := RX1) (T := TX1) (N := 6) hx hb hts (fun _ h9 => List.mem_cons_of_mem _ (List.mem_append_right _ h9)) tyX1 tyX1_ok nmX1 hown hK hP hD hS 4 rfl rfl 3 (by decide) (hts (.fieldLink RX1 19 "LowPowerCpu$Multiplier" "high" "I") (by decide +kernel)) (fun _ h9 => h9) rfl (by decide +kernel) rfl rfl (Nat.le_of_ble_eq_true rfl) dX1_multiply_102 (fun H locs hP hD hS => ?_)
          have hP : va_P (dC, dI) vwCl (wsC h k (σ.1, σ.2.1, σ.2.2.1, σ.2.2.2.1, σ.2.2.2.2.1, σ.2.2.2.2.2.1, σ.2.2.2.2.2.2.1, x10, σ.2.2.2.2.2.2.2.2.1, σ.2.2.2.2.2.2.2.2.2)) H := hP
          have hD : va_D (AX 5 h s.heap.size) (wsC h k (σ.1, σ.2.1, σ.2.2.1, σ.2.2.2.1, σ.2.2.2.2.1, σ.2.2.2.2.2.1, σ.2.2.2.2.2.2.1, x10, σ.2.2.2.2.2.2.2.2.1, σ.2.2.2.2.2.2.2.2.2)) := hD
          refine lv_aload_n hx hb dX1_multiply_105 rfl (lv_at hl 5 rfl) ?_
          refine lv_lload hx hb dX1_multiply_106 (lv_at hl 0 rfl) ?_
          refine lv_l2i hx hb dX1_multiply_108 rfl ?_
          refine lv_ldc (v := 65535) hx hb hown (hts (.constant RX1 35 65535) (by decide +kernel)) dX1_multiply_109 ?_
          refine lv_iand hx hb dX1_multiply_111 ?_
          refine lv_topi (fun x11 ex11 => ?_)
          refine va_put (D := (dC, dI)) (ci := 1) (v := .int x11) (ty := .int) (C := RX1) (T := TX1) (N := 6) hx hb hts (fun _ h9 => List.mem_cons_of_mem _ (List.mem_append_right _ h9)) tyX1 tyX1_ok nmX1 hown hK hP hD hS 4 rfl rfl 2 (by decide) (hts (.fieldLink RX1 16 "LowPowerCpu$Multiplier" "low" "I") (by decide +kernel)) (fun _ h9 => h9) rfl (by decide +kernel) rfl rfl (Nat.le_of_ble_eq_true rfl) dX1_multiply_112 (fun H locs hP hD hS => ?_)
          have hP : va_P (dC, dI) vwCl (wsC h k (σ.1, σ.2.1, σ.2.2.1, σ.2.2.2.1, σ.2.2.2.2.1, σ.2.2.2.2.2.1, x11, x10, σ.2.2.2.2.2.2.2.2.1, σ.2.2.2.2.2.2.2.2.2)) H := hP
          have hD : va_D (AX 5 h s.heap.size) (wsC h k (σ.1, σ.2.1, σ.2.2.1, σ.2.2.2.1, σ.2.2.2.2.1, σ.2.2.2.2.2.1, x11, x10, σ.2.2.2.2.2.2.2.2.1, σ.2.2.2.2.2.2.2.2.2)) := hD
          refine lv_iload_n hx hb dX1_multiply_115 rfl (lv_at hl 4 rfl) ?_
          refine lv_if_eq (tgt := 142) hx hb dX1_multiply_116 (by decide) (fun c12 => ?_) (fun c12 => ?_)
          · refine lv_aload_n hx hb dX1_multiply_142 rfl (lv_at hl 5 rfl) ?_
            refine lv_lload hx hb dX1_multiply_143 (lv_at hl 0 rfl) ?_
            refine lv_ldc2 (v := 4294967295) hx hb hown (hts (.constantLong RX1 37 4294967295) (by decide +kernel)) dX1_multiply_145 ?_
            refine W.lcmp hx hb dX1_multiply_148 ?_
            refine wj (α := Int32) (D := (dC, dI)) (cl := vwCl) (A := AX 5 h s.heap.size) (H0 := s.heap) (if (lg_cmp x9 4294967295) ≤ 0 then 0 else 1) (fun v14 => wsC h k (σ.1, σ.2.1, σ.2.2.1, σ.2.2.2.1, σ.2.2.2.2.1, σ.2.2.2.2.2.1, x11, x10, σ.2.2.2.2.2.2.2.2.1, σ.2.2.2.2.2.2.2.2.2)) (fun v14 => [(7, .long x9), (5, .long v8), (3, .long v6), (2, .int v4), (1, .int v2), (0, .ref (h 4))]) 9 (fun v14 ls => F0 m 157 ls [.int v14, .ref (h 4)]) ?_ ?_
            · intro v14 ls H locs ev14 hl hP hD hS
              try dsimp only at hl hP hD ⊢
              refine va_put (D := (dC, dI)) (ci := 1) (v := .int v14) (ty := .int) (C := RX1) (T := TX1) (N := 6) hx hb hts (fun _ h9 => List.mem_cons_of_mem _ (List.mem_append_right _ h9)) tyX1 tyX1_ok nmX1 hown hK hP hD hS 4 rfl rfl 4 (by decide) (hts (.fieldLink RX1 22 "LowPowerCpu$Multiplier" "extra" "I") (by decide +kernel)) (fun _ h9 => h9) rfl (by decide +kernel) rfl rfl (Nat.le_of_ble_eq_true rfl) dX1_multiply_157 (fun H locs hP hD hS => ?_)
              have hP : va_P (dC, dI) vwCl (wsC h k (σ.1, σ.2.1, σ.2.2.1, σ.2.2.2.1, σ.2.2.2.2.1, σ.2.2.2.2.2.1, x11, x10, v14, σ.2.2.2.2.2.2.2.2.2)) H := hP
              have hD : va_D (AX 5 h s.heap.size) (wsC h k (σ.1, σ.2.1, σ.2.2.1, σ.2.2.2.1, σ.2.2.2.2.1, σ.2.2.2.2.2.1, x11, x10, v14, σ.2.2.2.2.2.2.2.2.2)) := hD
              exact retC_v hx hb hr hlocks (by subst ev14; subst ex11; subst ex10; subst ex9; subst ev8; subst ev6; subst ev4; subst ev2; exact if_pos c12) hP hD hS dX1_multiply_160
            · intro J
              refine lv_if_le (tgt := 156) hx hb dX1_multiply_149 (by decide) (fun c13 => ?_) (fun c13 => ?_)
              · refine lv_iconst (v := 0) hx hb dX1_multiply_156 (by decide) ?_
                exact J (0) ls _ _ (by exact (if_pos c13).symm) (lv_sub hl [0, 1, 2, 3, 4, 5] rfl) hP hD hS
              · refine lv_iconst (v := 1) hx hb dX1_multiply_152 (by decide) ?_
                refine lv_goto (tgt := 157) hx hb dX1_multiply_153 (by decide) ?_
                exact J (1) ls _ _ (by exact (if_neg c13).symm) (lv_sub hl [0, 1, 2, 3, 4, 5] rfl) hP hD hS
          · refine lv_aload_n hx hb dX1_multiply_119 rfl (lv_at hl 5 rfl) ?_
            refine lv_aload_n hx hb dX1_multiply_120 rfl (lv_at hl 5 rfl) ?_
            refine va_get (D := (dC, dI)) (ci := 1) (v := .int x10) (C := RX1) (T := TX1) (N := 6) hx hb hts (fun _ h9 => List.mem_cons_of_mem _ (List.mem_append_right _ h9)) hown hK hP 4 rfl rfl 3 (by decide) (hts (.fieldLink RX1 19 "LowPowerCpu$Multiplier" "high" "I") (by decide +kernel)) (fun _ h9 => h9) rfl dX1_multiply_121 ?_
            refine lv_ldc (v := 32768) hx hb hown (hts (.constant RX1 36 32768) (by decide +kernel)) dX1_multiply_124 ?_
            refine lv_iand hx hb dX1_multiply_126 ?_
            refine wj (α := Int32) (D := (dC, dI)) (cl := vwCl) (A := AX 5 h s.heap.size) (H0 := s.heap) (if (x10 &&& (32768 : Int32)) = 0 then 0 else 65535) (fun v16 => wsC h k (σ.1, σ.2.1, σ.2.2.1, σ.2.2.2.1, σ.2.2.2.2.1, σ.2.2.2.2.2.1, x11, x10, σ.2.2.2.2.2.2.2.2.1, σ.2.2.2.2.2.2.2.2.2)) (fun v16 => [(7, .long x9), (5, .long v8), (3, .long v6), (2, .int v4), (1, .int v2), (0, .ref (h 4))]) 9 (fun v16 ls => F0 m 136 ls [.int v16, .ref (h 4)]) ?_ ?_
            · intro v16 ls H locs ev16 hl hP hD hS
              try dsimp only at hl hP hD ⊢
              refine va_put (D := (dC, dI)) (ci := 1) (v := .int v16) (ty := .int) (C := RX1) (T := TX1) (N := 6) hx hb hts (fun _ h9 => List.mem_cons_of_mem _ (List.mem_append_right _ h9)) tyX1 tyX1_ok nmX1 hown hK hP hD hS 4 rfl rfl 4 (by decide) (hts (.fieldLink RX1 22 "LowPowerCpu$Multiplier" "extra" "I") (by decide +kernel)) (fun _ h9 => h9) rfl (by decide +kernel) rfl rfl (Nat.le_of_ble_eq_true rfl) dX1_multiply_136 (fun H locs hP hD hS => ?_)
              have hP : va_P (dC, dI) vwCl (wsC h k (σ.1, σ.2.1, σ.2.2.1, σ.2.2.2.1, σ.2.2.2.2.1, σ.2.2.2.2.2.1, x11, x10, v16, σ.2.2.2.2.2.2.2.2.2)) H := hP
              have hD : va_D (AX 5 h s.heap.size) (wsC h k (σ.1, σ.2.1, σ.2.2.1, σ.2.2.2.1, σ.2.2.2.2.1, σ.2.2.2.2.2.1, x11, x10, v16, σ.2.2.2.2.2.2.2.2.2)) := hD
              refine lv_goto (tgt := 160) hx hb dX1_multiply_139 (by decide) ?_
              exact retC_v hx hb hr hlocks (by subst ev16; subst ex11; subst ex10; subst ex9; subst ev8; subst ev6; subst ev4; subst ev2; exact if_neg c12) hP hD hS dX1_multiply_160
            · intro J
              refine lv_if_eq (tgt := 135) hx hb dX1_multiply_127 (by decide) (fun c15 => ?_) (fun c15 => ?_)
              · refine lv_iconst (v := 0) hx hb dX1_multiply_135 (by decide) ?_
                exact J (0) ls _ _ (by exact (if_pos c15).symm) (lv_sub hl [0, 1, 2, 3, 4, 5] rfl) hP hD hS
              · refine lv_ldc (v := 65535) hx hb hown (hts (.constant RX1 35 65535) (by decide +kernel)) dX1_multiply_130 ?_
                refine lv_goto (tgt := 136) hx hb dX1_multiply_132 (by decide) ?_
                exact J (65535) ls _ _ (by exact (if_neg c15).symm) (lv_sub hl [0, 1, 2, 3, 4, 5] rfl) hP hD hS
        · intro J
          refine lv_if_eq (tgt := 83) hx hb dX1_multiply_63 (by decide) (fun c7 => ?_) (fun c7 => ?_)
          · refine lv_lconst (v := 0) hx hb dX1_multiply_83 (by decide) ?_
            exact J (0) ls _ _ (by exact (if_pos c7).symm) (lv_sub hl [0, 1, 2, 3] rfl) hP hD hS
          · refine lv_aload_n hx hb dX1_multiply_66 rfl (lv_at hl 3 rfl) ?_
            refine va_get (D := (dC, dI)) (ci := 1) (v := .int σ.2.2.2.2.2.2.2.1) (C := RX1) (T := TX1) (N := 6) hx hb hts (fun _ h9 => List.mem_cons_of_mem _ (List.mem_append_right _ h9)) hown hK hP 4 rfl rfl 3 (by decide) (hts (.fieldLink RX1 19 "LowPowerCpu$Multiplier" "high" "I") (by decide +kernel)) (fun _ h9 => h9) rfl dX1_multiply_67 ?_
            refine lv_i2l hx hb dX1_multiply_70 rfl ?_
            refine lv_bipush (v := 16) hx hb dX1_multiply_71 (by decide) ?_
            refine lv_lshl hx hb dX1_multiply_73 rfl ?_
            refine lv_aload_n hx hb dX1_multiply_74 rfl (lv_at hl 3 rfl) ?_
            refine va_get (D := (dC, dI)) (ci := 1) (v := .int σ.2.2.2.2.2.2.1) (C := RX1) (T := TX1) (N := 6) hx hb hts (fun _ h9 => List.mem_cons_of_mem _ (List.mem_append_right _ h9)) hown hK hP 4 rfl rfl 2 (by decide) (hts (.fieldLink RX1 16 "LowPowerCpu$Multiplier" "low" "I") (by decide +kernel)) (fun _ h9 => h9) rfl dX1_multiply_75 ?_
            refine lv_i2l hx hb dX1_multiply_78 rfl ?_
            refine lv_lor hx hb dX1_multiply_79 ?_
            refine lv_goto (tgt := 84) hx hb dX1_multiply_80 (by decide) ?_
            exact J ((σ.2.2.2.2.2.2.2.1.toInt64 <<< ((16 : Int32).toInt64 &&& 63)) ||| σ.2.2.2.2.2.2.1.toInt64) ls _ _ (by exact (if_neg c7).symm) (lv_sub hl [0, 1, 2, 3] rfl) hP hD hS
      · intro J
        refine lv_if_eq (tgt := 50) hx hb dX1_multiply_31 (by decide) (fun c5 => ?_) (fun c5 => ?_)
        · refine lv_aload_n hx hb dX1_multiply_50 rfl (lv_at hl 2 rfl) ?_
          refine va_get (D := (dC, dI)) (ci := 1) (v := .int σ.2.2.2.2.1) (C := RX1) (T := TX1) (N := 6) hx hb hts (fun _ h9 => List.mem_cons_of_mem _ (List.mem_append_right _ h9)) hown hK hP 4 rfl rfl 0 (by decide) (hts (.fieldLink RX1 7 "LowPowerCpu$Multiplier" "one" "I") (by decide +kernel)) (fun _ h9 => h9) rfl dX1_multiply_51 ?_
          refine lv_i2l hx hb dX1_multiply_54 rfl ?_
          refine lv_aload_n hx hb dX1_multiply_55 rfl (lv_at hl 2 rfl) ?_
          refine va_get (D := (dC, dI)) (ci := 1) (v := .int σ.2.2.2.2.2.1) (C := RX1) (T := TX1) (N := 6) hx hb hts (fun _ h9 => List.mem_cons_of_mem _ (List.mem_append_right _ h9)) hown hK hP 4 rfl rfl 1 (by decide) (hts (.fieldLink RX1 13 "LowPowerCpu$Multiplier" "two" "I") (by decide +kernel)) (fun _ h9 => h9) rfl dX1_multiply_56 ?_
          refine lv_i2l hx hb dX1_multiply_59 rfl ?_
          refine lv_lmul hx hb dX1_multiply_60 ?_
          exact J (σ.2.2.2.2.1.toInt64 * σ.2.2.2.2.2.1.toInt64) ls _ _ (by exact (if_pos c5).symm) (lv_sub hl [0, 1, 2] rfl) hP hD hS
        · refine lv_aload_n hx hb dX1_multiply_34 rfl (lv_at hl 2 rfl) ?_
          refine va_get (D := (dC, dI)) (ci := 1) (v := .int σ.2.2.2.2.1) (C := RX1) (T := TX1) (N := 6) hx hb hts (fun _ h9 => List.mem_cons_of_mem _ (List.mem_append_right _ h9)) hown hK hP 4 rfl rfl 0 (by decide) (hts (.fieldLink RX1 7 "LowPowerCpu$Multiplier" "one" "I") (by decide +kernel)) (fun _ h9 => h9) rfl dX1_multiply_35 ?_
          refine lv_i2s hx hb dX1_multiply_38 rfl ?_
          refine lv_i2l hx hb dX1_multiply_39 rfl ?_
          refine lv_aload_n hx hb dX1_multiply_40 rfl (lv_at hl 2 rfl) ?_
          refine va_get (D := (dC, dI)) (ci := 1) (v := .int σ.2.2.2.2.2.1) (C := RX1) (T := TX1) (N := 6) hx hb hts (fun _ h9 => List.mem_cons_of_mem _ (List.mem_append_right _ h9)) hown hK hP 4 rfl rfl 1 (by decide) (hts (.fieldLink RX1 13 "LowPowerCpu$Multiplier" "two" "I") (by decide +kernel)) (fun _ h9 => h9) rfl dX1_multiply_41 ?_
          refine lv_i2s hx hb dX1_multiply_44 rfl ?_
          refine lv_i2l hx hb dX1_multiply_45 rfl ?_
          refine lv_lmul hx hb dX1_multiply_46 ?_
          refine lv_goto (tgt := 61) hx hb dX1_multiply_47 (by decide) ?_
          exact J (σ.2.2.2.2.1.toInt16.toInt32.toInt64 * σ.2.2.2.2.2.1.toInt16.toInt32.toInt64) ls _ _ (by exact (if_neg c5).symm) (lv_sub hl [0, 1, 2] rfl) hP hD hS
    · intro J
      refine lv_if_eq (tgt := 28) hx hb dX1_multiply_21 (by decide) (fun c3 => ?_) (fun c3 => ?_)
      · refine lv_iconst (v := 0) hx hb dX1_multiply_28 (by decide) ?_
        exact J (0) ls _ _ (by exact (if_pos c3).symm) (lv_sub hl [0, 1] rfl) hP hD hS
      · refine lv_iconst (v := 1) hx hb dX1_multiply_24 (by decide) ?_
        refine lv_goto (tgt := 29) hx hb dX1_multiply_25 (by decide) ?_
        exact J (1) ls _ _ (by exact (if_neg c3).symm) (lv_sub hl [0, 1] rfl) hP hD hS
  · intro J
    refine lv_if_eq (tgt := 13) hx hb dX1_multiply_6 (by decide) (fun c1 => ?_) (fun c1 => ?_)
    · refine lv_iconst (v := 0) hx hb dX1_multiply_13 (by decide) ?_
      exact J (0) ls _ _ (by exact (if_pos c1).symm) (lv_sub hl [0] rfl) hP hD hS
    · refine lv_iconst (v := 1) hx hb dX1_multiply_9 (by decide) ?_
      refine lv_goto (tgt := 14) hx hb dX1_multiply_10 (by decide) ?_
      exact J (1) ls _ _ (by exact (if_neg c1).symm) (lv_sub hl [0] rfl) hP hD hS

set_option maxHeartbeats 4000000 in
set_option maxRecDepth 100000 in
theorem c_X1_write (l : Launch) (dC : Nat → ClassId) (dI : Nat → Nat → Nat) (h : Nat → Nat) (k : Nat → ClassId) (g : Nat → Nat) (sz : Nat) (σ : StC) (a1 : Int32) (a2 : Int32) : Met l yX1_write wsX1_write ({ frames := 1, cells := 0, slots := 0, locals := 28 }) (PcC (dC, dI) h k g [.ref (h 4), .int a1, .int a2] sz σ) (va_Qv (fun u => u = f_X1_write σ a1 a2) (BC (dC, dI) h k (AX 5 h sz)) (AX 5 h sz)) 0 0 (AX 5 h sz) := by
  refine Met.ofW (cc := cX1_write) (maxL := 3) (ret := none) (by decide) rfl ?_
  intro p e s m args below meth c s₁ B hml hv
  obtain ⟨rfl, rfl, hP, hct, hD⟩ := hv
  have hx := B.exec
  have hb := B.bytes
  have hr := B.returns
  have hts := atoms_spec (ws := wsX1_write) B.pre
  have hown : s.vm.findClass RX1 = some m.cls := findClass_of_methodNamed B.named
  have hlocks := B.notSynchronized
  have hK := hct.1
  have hN := hct.2.1
  have hS : va_S (AX 5 h s.heap.size) s.heap s.heap [] := va_S.rf
  have hl := lv_entry ([.ref (h 4), .int a1, .int a2]) (n := 3) (Nat.le_of_ble_eq_true rfl)
  rw [lg_entry_eq]
  generalize (lg_sl ([.ref (h 4), .int a1, .int a2]) ++ List.replicate (3 - (lg_sl ([.ref (h 4), .int a1, .int a2])).length) Slot.unset).toArray = ls at hl ⊢
  have hl : lv_has ls 3 [(0, .ref (h 4)), (1, .int a1), (2, .int a2)] := hl
  refine lv_iload_n hx hb dX1_write_0 rfl (lv_at hl 1 rfl) ?_
  refine lv_bipush (v := 7) hx hb dX1_write_1 (by decide) ?_
  refine lv_icmp_ne (tgt := 7) hx hb dX1_write_3 (by decide) (fun c1 => ?_) (fun c1 => ?_)
  · refine lv_aload_n hx hb dX1_write_7 rfl (lv_at hl 0 rfl) ?_
    refine lv_iload_n hx hb dX1_write_8 rfl (lv_at hl 1 rfl) ?_
    refine lv_iload_n hx hb dX1_write_9 rfl (lv_at hl 2 rfl) ?_
    refine callC_v (va_runV (As := [.int a1, .int a2]) (rest := []) ⟨hx, hb, hml, hown, hts⟩ (c_X1_placeWordAtSlot l dC dI h k g _ σ a1 a2) (cwV 2 hts gX1_write_X1_placeWordAtSlot rfl rfl rfl (by decide +kernel) ⟨Nat.le_of_ble_eq_true rfl, Nat.le_of_ble_eq_true rfl⟩) (preC_V (ci := 1) (q0 := 4) hct hP hD hS rfl rfl) rfl rfl hl.1 rfl (lv_room (Nat.le_of_ble_eq_true rfl)) dX1_write_10 ⟨Nat.le_of_ble_eq_true rfl, Nat.le_of_ble_eq_true rfl⟩) hS (fun σ2 H locs eσ2 hP hD hS => ?_)
    refine lv_iload_n hx hb dX1_write_13 rfl (lv_at hl 1 rfl) ?_
    refine lv_iconst (v := 4) hx hb dX1_write_14 (by decide) ?_
    refine lv_icmp_ge (tgt := 26) hx hb dX1_write_15 (by decide) (fun c3 => ?_) (fun c3 => ?_)
    · refine lv_iload_n hx hb dX1_write_26 rfl (lv_at hl 1 rfl) ?_
      refine lv_iconst (v := 4) hx hb dX1_write_27 (by decide) ?_
      refine lv_icmp_ne (tgt := 35) hx hb dX1_write_28 (by decide) (fun c4 => ?_) (fun c4 => ?_)
      · exact retC_v hx hb hr hlocks (by subst eσ2; exact (if_neg c1).trans ((if_pos c3).trans (if_neg c4))) hP hD hS dX1_write_35
      · refine lv_aload_n hx hb dX1_write_31 rfl (lv_at hl 0 rfl) ?_
        refine callC_v (va_runV (As := []) (rest := []) ⟨hx, hb, hml, hown, hts⟩ (c_X1_multiply l dC dI h k g _ σ2 ) (cwV 0 hts gX1_write_X1_multiply rfl rfl rfl (by decide +kernel) ⟨Nat.le_of_ble_eq_true rfl, Nat.le_of_ble_eq_true rfl⟩) (preC_V (ci := 1) (q0 := 4) hct hP hD hS rfl rfl) rfl rfl hl.1 rfl (lv_room (Nat.le_of_ble_eq_true rfl)) dX1_write_32 ⟨Nat.le_of_ble_eq_true rfl, Nat.le_of_ble_eq_true rfl⟩) hS (fun σ5 H locs eσ5 hP hD hS => ?_)
        exact retC_v hx hb hr hlocks (by subst eσ5; subst eσ2; exact (if_neg c1).trans ((if_pos c3).trans (if_pos c4))) hP hD hS dX1_write_35
    · refine lv_aload_n hx hb dX1_write_18 rfl (lv_at hl 0 rfl) ?_
      refine lv_iload_n hx hb dX1_write_19 rfl (lv_at hl 1 rfl) ?_
      refine va_put (D := (dC, dI)) (ci := 1) (v := .int a1) (ty := .int) (C := RX1) (T := TX1) (N := 6) hx hb hts (fun _ h9 => List.mem_cons_of_mem _ (List.mem_append_right _ h9)) tyX1 tyX1_ok nmX1 hown hK hP hD hS 4 rfl rfl 5 (by decide) (hts (.fieldLink RX1 25 "LowPowerCpu$Multiplier" "way" "I") (by decide +kernel)) (fun _ h9 => h9) rfl (by decide +kernel) rfl rfl (Nat.le_of_ble_eq_true rfl) dX1_write_20 (fun H locs hP hD hS => ?_)
      have hP : va_P (dC, dI) vwCl (wsC h k (σ2.1, σ2.2.1, σ2.2.2.1, σ2.2.2.2.1, σ2.2.2.2.2.1, σ2.2.2.2.2.2.1, σ2.2.2.2.2.2.2.1, σ2.2.2.2.2.2.2.2.1, σ2.2.2.2.2.2.2.2.2.1, a1)) H := hP
      have hD : va_D (AX 5 h s.heap.size) (wsC h k (σ2.1, σ2.2.1, σ2.2.2.1, σ2.2.2.2.1, σ2.2.2.2.2.1, σ2.2.2.2.2.2.1, σ2.2.2.2.2.2.2.1, σ2.2.2.2.2.2.2.2.1, σ2.2.2.2.2.2.2.2.2.1, a1)) := hD
      refine lv_goto (tgt := 35) hx hb dX1_write_23 (by decide) ?_
      exact retC_v hx hb hr hlocks (by subst eσ2; exact (if_neg c1).trans (if_neg c3)) hP hD hS dX1_write_35
  · exact retC_v hx hb hr hlocks (by exact if_pos c1) hP hD hS dX1_write_6

set_option maxHeartbeats 4000000 in
set_option maxRecDepth 100000 in
theorem c_X1_clear (l : Launch) (dC : Nat → ClassId) (dI : Nat → Nat → Nat) (h : Nat → Nat) (k : Nat → ClassId) (g : Nat → Nat) (sz : Nat) (σ : StC) : Met l yX1_clear wsX1_clear ({ frames := 0, cells := 0, slots := 0, locals := 0 }) (PcC (dC, dI) h k g [.ref (h 4)] sz σ) (va_Qv (fun u => u = f_X1_clear σ) (BC (dC, dI) h k (AX 5 h sz)) (AX 5 h sz)) 0 0 (AX 5 h sz) := by
  refine Met.ofW (cc := cX1_clear) (maxL := 1) (ret := none) (by decide) rfl ?_
  intro p e s m args below meth c s₁ B hml hv
  obtain ⟨rfl, rfl, hP, hct, hD⟩ := hv
  have hx := B.exec
  have hb := B.bytes
  have hr := B.returns
  have hts := atoms_spec (ws := wsX1_clear) B.pre
  have hown : s.vm.findClass RX1 = some m.cls := findClass_of_methodNamed B.named
  have hlocks := B.notSynchronized
  have hK := hct.1
  have hN := hct.2.1
  have hS : va_S (AX 5 h s.heap.size) s.heap s.heap [] := va_S.rf
  have hl := lv_entry ([.ref (h 4)]) (n := 1) (Nat.le_of_ble_eq_true rfl)
  rw [lg_entry_eq]
  generalize (lg_sl ([.ref (h 4)]) ++ List.replicate (1 - (lg_sl ([.ref (h 4)])).length) Slot.unset).toArray = ls at hl ⊢
  have hl : lv_has ls 1 [(0, .ref (h 4))] := hl
  refine lv_aload_n hx hb dX1_clear_0 rfl (lv_at hl 0 rfl) ?_
  refine lv_iconst (v := 0) hx hb dX1_clear_1 (by decide) ?_
  refine va_put (D := (dC, dI)) (ci := 1) (v := .int 0) (ty := .int) (C := RX1) (T := TX1) (N := 6) hx hb hts (fun _ h9 => List.mem_cons_of_mem _ (List.mem_append_right _ h9)) tyX1 tyX1_ok nmX1 hown hK hP hD hS 4 rfl rfl 0 (by decide) (hts (.fieldLink RX1 7 "LowPowerCpu$Multiplier" "one" "I") (by decide +kernel)) (fun _ h9 => h9) rfl (by decide +kernel) rfl rfl (Nat.le_of_ble_eq_true rfl) dX1_clear_2 (fun H locs hP hD hS => ?_)
  have hP : va_P (dC, dI) vwCl (wsC h k (σ.1, σ.2.1, σ.2.2.1, σ.2.2.2.1, 0, σ.2.2.2.2.2.1, σ.2.2.2.2.2.2.1, σ.2.2.2.2.2.2.2.1, σ.2.2.2.2.2.2.2.2.1, σ.2.2.2.2.2.2.2.2.2)) H := hP
  have hD : va_D (AX 5 h s.heap.size) (wsC h k (σ.1, σ.2.1, σ.2.2.1, σ.2.2.2.1, 0, σ.2.2.2.2.2.1, σ.2.2.2.2.2.2.1, σ.2.2.2.2.2.2.2.1, σ.2.2.2.2.2.2.2.2.1, σ.2.2.2.2.2.2.2.2.2)) := hD
  refine lv_aload_n hx hb dX1_clear_5 rfl (lv_at hl 0 rfl) ?_
  refine lv_iconst (v := 0) hx hb dX1_clear_6 (by decide) ?_
  refine va_put (D := (dC, dI)) (ci := 1) (v := .int 0) (ty := .int) (C := RX1) (T := TX1) (N := 6) hx hb hts (fun _ h9 => List.mem_cons_of_mem _ (List.mem_append_right _ h9)) tyX1 tyX1_ok nmX1 hown hK hP hD hS 4 rfl rfl 1 (by decide) (hts (.fieldLink RX1 13 "LowPowerCpu$Multiplier" "two" "I") (by decide +kernel)) (fun _ h9 => h9) rfl (by decide +kernel) rfl rfl (Nat.le_of_ble_eq_true rfl) dX1_clear_7 (fun H locs hP hD hS => ?_)
  have hP : va_P (dC, dI) vwCl (wsC h k (σ.1, σ.2.1, σ.2.2.1, σ.2.2.2.1, 0, 0, σ.2.2.2.2.2.2.1, σ.2.2.2.2.2.2.2.1, σ.2.2.2.2.2.2.2.2.1, σ.2.2.2.2.2.2.2.2.2)) H := hP
  have hD : va_D (AX 5 h s.heap.size) (wsC h k (σ.1, σ.2.1, σ.2.2.1, σ.2.2.2.1, 0, 0, σ.2.2.2.2.2.2.1, σ.2.2.2.2.2.2.2.1, σ.2.2.2.2.2.2.2.2.1, σ.2.2.2.2.2.2.2.2.2)) := hD
  refine lv_aload_n hx hb dX1_clear_10 rfl (lv_at hl 0 rfl) ?_
  refine lv_iconst (v := 0) hx hb dX1_clear_11 (by decide) ?_
  refine va_put (D := (dC, dI)) (ci := 1) (v := .int 0) (ty := .int) (C := RX1) (T := TX1) (N := 6) hx hb hts (fun _ h9 => List.mem_cons_of_mem _ (List.mem_append_right _ h9)) tyX1 tyX1_ok nmX1 hown hK hP hD hS 4 rfl rfl 2 (by decide) (hts (.fieldLink RX1 16 "LowPowerCpu$Multiplier" "low" "I") (by decide +kernel)) (fun _ h9 => h9) rfl (by decide +kernel) rfl rfl (Nat.le_of_ble_eq_true rfl) dX1_clear_12 (fun H locs hP hD hS => ?_)
  have hP : va_P (dC, dI) vwCl (wsC h k (σ.1, σ.2.1, σ.2.2.1, σ.2.2.2.1, 0, 0, 0, σ.2.2.2.2.2.2.2.1, σ.2.2.2.2.2.2.2.2.1, σ.2.2.2.2.2.2.2.2.2)) H := hP
  have hD : va_D (AX 5 h s.heap.size) (wsC h k (σ.1, σ.2.1, σ.2.2.1, σ.2.2.2.1, 0, 0, 0, σ.2.2.2.2.2.2.2.1, σ.2.2.2.2.2.2.2.2.1, σ.2.2.2.2.2.2.2.2.2)) := hD
  refine lv_aload_n hx hb dX1_clear_15 rfl (lv_at hl 0 rfl) ?_
  refine lv_iconst (v := 0) hx hb dX1_clear_16 (by decide) ?_
  refine va_put (D := (dC, dI)) (ci := 1) (v := .int 0) (ty := .int) (C := RX1) (T := TX1) (N := 6) hx hb hts (fun _ h9 => List.mem_cons_of_mem _ (List.mem_append_right _ h9)) tyX1 tyX1_ok nmX1 hown hK hP hD hS 4 rfl rfl 3 (by decide) (hts (.fieldLink RX1 19 "LowPowerCpu$Multiplier" "high" "I") (by decide +kernel)) (fun _ h9 => h9) rfl (by decide +kernel) rfl rfl (Nat.le_of_ble_eq_true rfl) dX1_clear_17 (fun H locs hP hD hS => ?_)
  have hP : va_P (dC, dI) vwCl (wsC h k (σ.1, σ.2.1, σ.2.2.1, σ.2.2.2.1, 0, 0, 0, 0, σ.2.2.2.2.2.2.2.2.1, σ.2.2.2.2.2.2.2.2.2)) H := hP
  have hD : va_D (AX 5 h s.heap.size) (wsC h k (σ.1, σ.2.1, σ.2.2.1, σ.2.2.2.1, 0, 0, 0, 0, σ.2.2.2.2.2.2.2.2.1, σ.2.2.2.2.2.2.2.2.2)) := hD
  refine lv_aload_n hx hb dX1_clear_20 rfl (lv_at hl 0 rfl) ?_
  refine lv_iconst (v := 0) hx hb dX1_clear_21 (by decide) ?_
  refine va_put (D := (dC, dI)) (ci := 1) (v := .int 0) (ty := .int) (C := RX1) (T := TX1) (N := 6) hx hb hts (fun _ h9 => List.mem_cons_of_mem _ (List.mem_append_right _ h9)) tyX1 tyX1_ok nmX1 hown hK hP hD hS 4 rfl rfl 4 (by decide) (hts (.fieldLink RX1 22 "LowPowerCpu$Multiplier" "extra" "I") (by decide +kernel)) (fun _ h9 => h9) rfl (by decide +kernel) rfl rfl (Nat.le_of_ble_eq_true rfl) dX1_clear_22 (fun H locs hP hD hS => ?_)
  have hP : va_P (dC, dI) vwCl (wsC h k (σ.1, σ.2.1, σ.2.2.1, σ.2.2.2.1, 0, 0, 0, 0, 0, σ.2.2.2.2.2.2.2.2.2)) H := hP
  have hD : va_D (AX 5 h s.heap.size) (wsC h k (σ.1, σ.2.1, σ.2.2.1, σ.2.2.2.1, 0, 0, 0, 0, 0, σ.2.2.2.2.2.2.2.2.2)) := hD
  refine lv_aload_n hx hb dX1_clear_25 rfl (lv_at hl 0 rfl) ?_
  refine lv_iconst (v := 0) hx hb dX1_clear_26 (by decide) ?_
  refine va_put (D := (dC, dI)) (ci := 1) (v := .int 0) (ty := .int) (C := RX1) (T := TX1) (N := 6) hx hb hts (fun _ h9 => List.mem_cons_of_mem _ (List.mem_append_right _ h9)) tyX1 tyX1_ok nmX1 hown hK hP hD hS 4 rfl rfl 5 (by decide) (hts (.fieldLink RX1 25 "LowPowerCpu$Multiplier" "way" "I") (by decide +kernel)) (fun _ h9 => h9) rfl (by decide +kernel) rfl rfl (Nat.le_of_ble_eq_true rfl) dX1_clear_27 (fun H locs hP hD hS => ?_)
  have hP : va_P (dC, dI) vwCl (wsC h k (σ.1, σ.2.1, σ.2.2.1, σ.2.2.2.1, 0, 0, 0, 0, 0, 0)) H := hP
  have hD : va_D (AX 5 h s.heap.size) (wsC h k (σ.1, σ.2.1, σ.2.2.1, σ.2.2.2.1, 0, 0, 0, 0, 0, 0)) := hD
  exact retC_v hx hb hr hlocks (by exact rfl) hP hD hS dX1_clear_30
end
