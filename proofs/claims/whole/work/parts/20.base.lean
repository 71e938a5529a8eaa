-- ===== PART A: goes FIRST, ahead of the names: the tables' words, and 'selects' of the private methods out of them =====
/-- a private method of a class that the tables say can be made, by its rows of tables_1 -/
def lw_okq (q : MethodName × Nat) : Prop := (q.1.cls ≠ "java/lang/invoke/MethodHandle" ∧ q.1.cls ≠ "java/lang/invoke/VarHandle") ∧ Cond.instantiable q.1.cls q.2 ∈ tables_1 ∧ Cond.privateMethod q.1 ∈ tables_1 ∧ Cond.instanceMethod q.1 ∈ tables_1
theorem lw_p0 : lw_okq (⟨"EnclaveWarden$Enclave", "become", "(I)V"⟩, 4) := ⟨⟨by decide +kernel, by decide +kernel⟩, List.mem_of_getElem? (i := 16) (by decide +kernel), List.mem_of_getElem? (i := 58) (by decide +kernel), List.mem_of_getElem? (i := 59) (by decide +kernel)⟩
theorem lw_p1 : lw_okq (⟨"EnclaveWarden", "systemMayUse", "(I)Z"⟩, 10) := ⟨⟨by decide +kernel, by decide +kernel⟩, List.mem_of_getElem? (i := 7) (by decide +kernel), List.mem_of_getElem? (i := 116) (by decide +kernel), List.mem_of_getElem? (i := 117) (by decide +kernel)⟩
theorem lw_p2 : lw_okq (⟨"EnclaveWarden$Core", "put", "(II)V"⟩, 2) := ⟨⟨by decide +kernel, by decide +kernel⟩, List.mem_of_getElem? (i := 29) (by decide +kernel), List.mem_of_getElem? (i := 135) (by decide +kernel), List.mem_of_getElem? (i := 136) (by decide +kernel)⟩
theorem lw_p3 : lw_okq (⟨"EnclaveWarden$Core", "get", "(I)I"⟩, 2) := ⟨⟨by decide +kernel, by decide +kernel⟩, List.mem_of_getElem? (i := 29) (by decide +kernel), List.mem_of_getElem? (i := 143) (by decide +kernel), List.mem_of_getElem? (i := 144) (by decide +kernel)⟩
theorem lw_p4 : lw_okq (⟨"EnclaveWarden", "systemCall", "(IIII)I"⟩, 10) := ⟨⟨by decide +kernel, by decide +kernel⟩, List.mem_of_getElem? (i := 7) (by decide +kernel), List.mem_of_getElem? (i := 163) (by decide +kernel), List.mem_of_getElem? (i := 164) (by decide +kernel)⟩
theorem lw_p5 : lw_okq (⟨"EnclaveWarden", "create", "(II)I"⟩, 10) := ⟨⟨by decide +kernel, by decide +kernel⟩, List.mem_of_getElem? (i := 7) (by decide +kernel), List.mem_of_getElem? (i := 167) (by decide +kernel), List.mem_of_getElem? (i := 168) (by decide +kernel)⟩
theorem lw_p6 : lw_okq (⟨"EnclaveWarden", "allFree", "(II)Z"⟩, 10) := ⟨⟨by decide +kernel, by decide +kernel⟩, List.mem_of_getElem? (i := 7) (by decide +kernel), List.mem_of_getElem? (i := 174) (by decide +kernel), List.mem_of_getElem? (i := 175) (by decide +kernel)⟩
theorem lw_p7 : lw_okq (⟨"EnclaveWarden", "leastAbsent", "()I"⟩, 10) := ⟨⟨by decide +kernel, by decide +kernel⟩, List.mem_of_getElem? (i := 7) (by decide +kernel), List.mem_of_getElem? (i := 178) (by decide +kernel), List.mem_of_getElem? (i := 179) (by decide +kernel)⟩
theorem lw_p8 : lw_okq (⟨"EnclaveWarden$Enclave", "add", "(I)V"⟩, 4) := ⟨⟨by decide +kernel, by decide +kernel⟩, List.mem_of_getElem? (i := 16) (by decide +kernel), List.mem_of_getElem? (i := 183) (by decide +kernel), List.mem_of_getElem? (i := 184) (by decide +kernel)⟩
theorem lw_p9 : lw_okq (⟨"EnclaveWarden", "load", "(III)I"⟩, 10) := ⟨⟨by decide +kernel, by decide +kernel⟩, List.mem_of_getElem? (i := 7) (by decide +kernel), List.mem_of_getElem? (i := 191) (by decide +kernel), List.mem_of_getElem? (i := 192) (by decide +kernel)⟩
theorem lw_p10 : lw_okq (⟨"EnclaveWarden", "addThread", "(II)I"⟩, 10) := ⟨⟨by decide +kernel, by decide +kernel⟩, List.mem_of_getElem? (i := 7) (by decide +kernel), List.mem_of_getElem? (i := 198) (by decide +kernel), List.mem_of_getElem? (i := 199) (by decide +kernel)⟩
theorem lw_p11 : lw_okq (⟨"EnclaveWarden$Enclave", "threadCount", "()I"⟩, 4) := ⟨⟨by decide +kernel, by decide +kernel⟩, List.mem_of_getElem? (i := 16) (by decide +kernel), List.mem_of_getElem? (i := 202) (by decide +kernel), List.mem_of_getElem? (i := 203) (by decide +kernel)⟩
theorem lw_p12 : lw_okq (⟨"EnclaveWarden", "seal", "(I)I"⟩, 10) := ⟨⟨by decide +kernel, by decide +kernel⟩, List.mem_of_getElem? (i := 7) (by decide +kernel), List.mem_of_getElem? (i := 206) (by decide +kernel), List.mem_of_getElem? (i := 207) (by decide +kernel)⟩
theorem lw_p13 : lw_okq (⟨"EnclaveWarden", "share", "(II)I"⟩, 10) := ⟨⟨by decide +kernel, by decide +kernel⟩, List.mem_of_getElem? (i := 7) (by decide +kernel), List.mem_of_getElem? (i := 210) (by decide +kernel), List.mem_of_getElem? (i := 211) (by decide +kernel)⟩
theorem lw_p14 : lw_okq (⟨"EnclaveWarden", "sharedWith", "(I)I"⟩, 10) := ⟨⟨by decide +kernel, by decide +kernel⟩, List.mem_of_getElem? (i := 7) (by decide +kernel), List.mem_of_getElem? (i := 214) (by decide +kernel), List.mem_of_getElem? (i := 215) (by decide +kernel)⟩
theorem lw_p15 : lw_okq (⟨"EnclaveWarden", "enter", "(III)I"⟩, 10) := ⟨⟨by decide +kernel, by decide +kernel⟩, List.mem_of_getElem? (i := 7) (by decide +kernel), List.mem_of_getElem? (i := 218) (by decide +kernel), List.mem_of_getElem? (i := 219) (by decide +kernel)⟩
def lw_privs_1 : List (MethodName × Nat) := [(⟨"EnclaveWarden$Enclave", "become", "(I)V"⟩, 4), (⟨"EnclaveWarden", "systemMayUse", "(I)Z"⟩, 10), (⟨"EnclaveWarden$Core", "put", "(II)V"⟩, 2), (⟨"EnclaveWarden$Core", "get", "(I)I"⟩, 2), (⟨"EnclaveWarden", "systemCall", "(IIII)I"⟩, 10), (⟨"EnclaveWarden", "create", "(II)I"⟩, 10), (⟨"EnclaveWarden", "allFree", "(II)Z"⟩, 10), (⟨"EnclaveWarden", "leastAbsent", "()I"⟩, 10), (⟨"EnclaveWarden$Enclave", "add", "(I)V"⟩, 4), (⟨"EnclaveWarden", "load", "(III)I"⟩, 10), (⟨"EnclaveWarden", "addThread", "(II)I"⟩, 10), (⟨"EnclaveWarden$Enclave", "threadCount", "()I"⟩, 4), (⟨"EnclaveWarden", "seal", "(I)I"⟩, 10), (⟨"EnclaveWarden", "share", "(II)I"⟩, 10), (⟨"EnclaveWarden", "sharedWith", "(I)I"⟩, 10), (⟨"EnclaveWarden", "enter", "(III)I"⟩, 10)]
theorem lw_r1 : ∀ q ∈ lw_privs_1, lw_okq q := List.forall_mem_cons.mpr ⟨lw_p0, List.forall_mem_cons.mpr ⟨lw_p1, List.forall_mem_cons.mpr ⟨lw_p2, List.forall_mem_cons.mpr ⟨lw_p3, List.forall_mem_cons.mpr ⟨lw_p4, List.forall_mem_cons.mpr ⟨lw_p5, List.forall_mem_cons.mpr ⟨lw_p6, List.forall_mem_cons.mpr ⟨lw_p7, List.forall_mem_cons.mpr ⟨lw_p8, List.forall_mem_cons.mpr ⟨lw_p9, List.forall_mem_cons.mpr ⟨lw_p10, List.forall_mem_cons.mpr ⟨lw_p11, List.forall_mem_cons.mpr ⟨lw_p12, List.forall_mem_cons.mpr ⟨lw_p13, List.forall_mem_cons.mpr ⟨lw_p14, List.forall_mem_cons.mpr ⟨lw_p15, fun _ h => absurd h List.not_mem_nil⟩⟩⟩⟩⟩⟩⟩⟩⟩⟩⟩⟩⟩⟩⟩⟩
theorem lw_p16 : lw_okq (⟨"EnclaveWarden", "refusalToStart", "(III)I"⟩, 10) := ⟨⟨by decide +kernel, by decide +kernel⟩, List.mem_of_getElem? (i := 7) (by decide +kernel), List.mem_of_getElem? (i := 222) (by decide +kernel), List.mem_of_getElem? (i := 223) (by decide +kernel)⟩
theorem lw_p17 : lw_okq (⟨"EnclaveWarden$Core", "start", "(II)V"⟩, 2) := ⟨⟨by decide +kernel, by decide +kernel⟩, List.mem_of_getElem? (i := 29) (by decide +kernel), List.mem_of_getElem? (i := 229) (by decide +kernel), List.mem_of_getElem? (i := 230) (by decide +kernel)⟩
theorem lw_p18 : lw_okq (⟨"EnclaveWarden", "handOver", "(II)V"⟩, 10) := ⟨⟨by decide +kernel, by decide +kernel⟩, List.mem_of_getElem? (i := 7) (by decide +kernel), List.mem_of_getElem? (i := 234) (by decide +kernel), List.mem_of_getElem? (i := 235) (by decide +kernel)⟩
theorem lw_p19 : lw_okq (⟨"EnclaveWarden", "resume", "(II)I"⟩, 10) := ⟨⟨by decide +kernel, by decide +kernel⟩, List.mem_of_getElem? (i := 7) (by decide +kernel), List.mem_of_getElem? (i := 238) (by decide +kernel), List.mem_of_getElem? (i := 239) (by decide +kernel)⟩
theorem lw_p20 : lw_okq (⟨"EnclaveWarden", "stop", "(I)I"⟩, 10) := ⟨⟨by decide +kernel, by decide +kernel⟩, List.mem_of_getElem? (i := 7) (by decide +kernel), List.mem_of_getElem? (i := 242) (by decide +kernel), List.mem_of_getElem? (i := 243) (by decide +kernel)⟩
theorem lw_p21 : lw_okq (⟨"EnclaveWarden", "destroy", "(I)I"⟩, 10) := ⟨⟨by decide +kernel, by decide +kernel⟩, List.mem_of_getElem? (i := 7) (by decide +kernel), List.mem_of_getElem? (i := 246) (by decide +kernel), List.mem_of_getElem? (i := 247) (by decide +kernel)⟩
theorem lw_p22 : lw_okq (⟨"EnclaveWarden", "free", "(I)V"⟩, 10) := ⟨⟨by decide +kernel, by decide +kernel⟩, List.mem_of_getElem? (i := 7) (by decide +kernel), List.mem_of_getElem? (i := 250) (by decide +kernel), List.mem_of_getElem? (i := 251) (by decide +kernel)⟩
theorem lw_p23 : lw_okq (⟨"EnclaveWarden", "claim", "(I)I"⟩, 10) := ⟨⟨by decide +kernel, by decide +kernel⟩, List.mem_of_getElem? (i := 7) (by decide +kernel), List.mem_of_getElem? (i := 254) (by decide +kernel), List.mem_of_getElem? (i := 255) (by decide +kernel)⟩
theorem lw_p24 : lw_okq (⟨"EnclaveWarden", "giveUp", "(I)I"⟩, 10) := ⟨⟨by decide +kernel, by decide +kernel⟩, List.mem_of_getElem? (i := 7) (by decide +kernel), List.mem_of_getElem? (i := 258) (by decide +kernel), List.mem_of_getElem? (i := 259) (by decide +kernel)⟩
theorem lw_p25 : lw_okq (⟨"EnclaveWarden", "step", "()V"⟩, 10) := ⟨⟨by decide +kernel, by decide +kernel⟩, List.mem_of_getElem? (i := 7) (by decide +kernel), List.mem_of_getElem? (i := 266) (by decide +kernel), List.mem_of_getElem? (i := 267) (by decide +kernel)⟩
theorem lw_p26 : lw_okq (⟨"EnclaveWarden", "leave", "(III)V"⟩, 10) := ⟨⟨by decide +kernel, by decide +kernel⟩, List.mem_of_getElem? (i := 7) (by decide +kernel), List.mem_of_getElem? (i := 270) (by decide +kernel), List.mem_of_getElem? (i := 271) (by decide +kernel)⟩
theorem lw_p27 : lw_okq (⟨"EnclaveWarden", "runningThread", "()LEnclaveWarden$EnclaveThread;"⟩, 10) := ⟨⟨by decide +kernel, by decide +kernel⟩, List.mem_of_getElem? (i := 7) (by decide +kernel), List.mem_of_getElem? (i := 274) (by decide +kernel), List.mem_of_getElem? (i := 275) (by decide +kernel)⟩
theorem lw_p28 : lw_okq (⟨"EnclaveWarden", "runnerMayUse", "(I)Z"⟩, 10) := ⟨⟨by decide +kernel, by decide +kernel⟩, List.mem_of_getElem? (i := 7) (by decide +kernel), List.mem_of_getElem? (i := 278) (by decide +kernel), List.mem_of_getElem? (i := 279) (by decide +kernel)⟩
theorem lw_p29 : lw_okq (⟨"EnclaveWarden", "enclaveMayUse", "(II)Z"⟩, 10) := ⟨⟨by decide +kernel, by decide +kernel⟩, List.mem_of_getElem? (i := 7) (by decide +kernel), List.mem_of_getElem? (i := 282) (by decide +kernel), List.mem_of_getElem? (i := 283) (by decide +kernel)⟩
theorem lw_p30 : lw_okq (⟨"EnclaveWarden", "fault", "(I)V"⟩, 10) := ⟨⟨by decide +kernel, by decide +kernel⟩, List.mem_of_getElem? (i := 7) (by decide +kernel), List.mem_of_getElem? (i := 286) (by decide +kernel), List.mem_of_getElem? (i := 287) (by decide +kernel)⟩
theorem lw_p31 : lw_okq (⟨"EnclaveWarden", "obeyCall", "(LEnclaveWarden$Core;I)V"⟩, 10) := ⟨⟨by decide +kernel, by decide +kernel⟩, List.mem_of_getElem? (i := 7) (by decide +kernel), List.mem_of_getElem? (i := 290) (by decide +kernel), List.mem_of_getElem? (i := 291) (by decide +kernel)⟩
def lw_privs_2 : List (MethodName × Nat) := [(⟨"EnclaveWarden", "refusalToStart", "(III)I"⟩, 10), (⟨"EnclaveWarden$Core", "start", "(II)V"⟩, 2), (⟨"EnclaveWarden", "handOver", "(II)V"⟩, 10), (⟨"EnclaveWarden", "resume", "(II)I"⟩, 10), (⟨"EnclaveWarden", "stop", "(I)I"⟩, 10), (⟨"EnclaveWarden", "destroy", "(I)I"⟩, 10), (⟨"EnclaveWarden", "free", "(I)V"⟩, 10), (⟨"EnclaveWarden", "claim", "(I)I"⟩, 10), (⟨"EnclaveWarden", "giveUp", "(I)I"⟩, 10), (⟨"EnclaveWarden", "step", "()V"⟩, 10), (⟨"EnclaveWarden", "leave", "(III)V"⟩, 10), (⟨"EnclaveWarden", "runningThread", "()LEnclaveWarden$EnclaveThread;"⟩, 10), (⟨"EnclaveWarden", "runnerMayUse", "(I)Z"⟩, 10), (⟨"EnclaveWarden", "enclaveMayUse", "(II)Z"⟩, 10), (⟨"EnclaveWarden", "fault", "(I)V"⟩, 10), (⟨"EnclaveWarden", "obeyCall", "(LEnclaveWarden$Core;I)V"⟩, 10)]
theorem lw_r2 : ∀ q ∈ lw_privs_2, lw_okq q := List.forall_mem_cons.mpr ⟨lw_p16, List.forall_mem_cons.mpr ⟨lw_p17, List.forall_mem_cons.mpr ⟨lw_p18, List.forall_mem_cons.mpr ⟨lw_p19, List.forall_mem_cons.mpr ⟨lw_p20, List.forall_mem_cons.mpr ⟨lw_p21, List.forall_mem_cons.mpr ⟨lw_p22, List.forall_mem_cons.mpr ⟨lw_p23, List.forall_mem_cons.mpr ⟨lw_p24, List.forall_mem_cons.mpr ⟨lw_p25, List.forall_mem_cons.mpr ⟨lw_p26, List.forall_mem_cons.mpr ⟨lw_p27, List.forall_mem_cons.mpr ⟨lw_p28, List.forall_mem_cons.mpr ⟨lw_p29, List.forall_mem_cons.mpr ⟨lw_p30, List.forall_mem_cons.mpr ⟨lw_p31, fun _ h => absurd h List.not_mem_nil⟩⟩⟩⟩⟩⟩⟩⟩⟩⟩⟩⟩⟩⟩⟩⟩
theorem lw_p32 : lw_okq (⟨"EnclaveWarden", "enclaveCall", "(IIII)I"⟩, 10) := ⟨⟨by decide +kernel, by decide +kernel⟩, List.mem_of_getElem? (i := 7) (by decide +kernel), List.mem_of_getElem? (i := 294) (by decide +kernel), List.mem_of_getElem? (i := 295) (by decide +kernel)⟩
theorem lw_p33 : lw_okq (⟨"EnclaveWarden", "macOf", "(II)I"⟩, 10) := ⟨⟨by decide +kernel, by decide +kernel⟩, List.mem_of_getElem? (i := 7) (by decide +kernel), List.mem_of_getElem? (i := 298) (by decide +kernel), List.mem_of_getElem? (i := 299) (by decide +kernel)⟩
theorem lw_p34 : lw_okq (⟨"EnclaveWarden", "obey", "(LEnclaveWarden$Core;I)V"⟩, 10) := ⟨⟨by decide +kernel, by decide +kernel⟩, List.mem_of_getElem? (i := 7) (by decide +kernel), List.mem_of_getElem? (i := 303) (by decide +kernel), List.mem_of_getElem? (i := 304) (by decide +kernel)⟩
theorem lw_p35 : lw_okq (⟨"EnclaveWardenModel", "uses", "(II)Z"⟩, 23) := ⟨⟨by decide +kernel, by decide +kernel⟩, List.mem_of_getElem? (i := 353) (by decide +kernel), List.mem_of_getElem? (i := 434) (by decide +kernel), List.mem_of_getElem? (i := 435) (by decide +kernel)⟩
theorem lw_p36 : lw_okq (⟨"EnclaveWardenModel", "kind", "(I)I"⟩, 23) := ⟨⟨by decide +kernel, by decide +kernel⟩, List.mem_of_getElem? (i := 353) (by decide +kernel), List.mem_of_getElem? (i := 441) (by decide +kernel), List.mem_of_getElem? (i := 442) (by decide +kernel)⟩
theorem lw_p37 : lw_okq (⟨"EnclaveWardenModel", "system", "(IIII)I"⟩, 23) := ⟨⟨by decide +kernel, by decide +kernel⟩, List.mem_of_getElem? (i := 353) (by decide +kernel), List.mem_of_getElem? (i := 477) (by decide +kernel), List.mem_of_getElem? (i := 478) (by decide +kernel)⟩
theorem lw_p38 : lw_okq (⟨"EnclaveWardenModel", "wrongState", "(III)Z"⟩, 23) := ⟨⟨by decide +kernel, by decide +kernel⟩, List.mem_of_getElem? (i := 353) (by decide +kernel), List.mem_of_getElem? (i := 484) (by decide +kernel), List.mem_of_getElem? (i := 485) (by decide +kernel)⟩
theorem lw_p39 : lw_okq (⟨"EnclaveWardenModel", "taken", "(IIII)Z"⟩, 23) := ⟨⟨by decide +kernel, by decide +kernel⟩, List.mem_of_getElem? (i := 353) (by decide +kernel), List.mem_of_getElem? (i := 488) (by decide +kernel), List.mem_of_getElem? (i := 489) (by decide +kernel)⟩
theorem lw_p40 : lw_okq (⟨"EnclaveWardenModel", "full", "(II)Z"⟩, 23) := ⟨⟨by decide +kernel, by decide +kernel⟩, List.mem_of_getElem? (i := 353) (by decide +kernel), List.mem_of_getElem? (i := 492) (by decide +kernel), List.mem_of_getElem? (i := 493) (by decide +kernel)⟩
theorem lw_p41 : lw_okq (⟨"EnclaveWardenModel", "create", "(II)I"⟩, 23) := ⟨⟨by decide +kernel, by decide +kernel⟩, List.mem_of_getElem? (i := 353) (by decide +kernel), List.mem_of_getElem? (i := 496) (by decide +kernel), List.mem_of_getElem? (i := 497) (by decide +kernel)⟩
theorem lw_p42 : lw_okq (⟨"EnclaveWardenModel", "add", "(II)V"⟩, 23) := ⟨⟨by decide +kernel, by decide +kernel⟩, List.mem_of_getElem? (i := 353) (by decide +kernel), List.mem_of_getElem? (i := 500) (by decide +kernel), List.mem_of_getElem? (i := 501) (by decide +kernel)⟩
theorem lw_p43 : lw_okq (⟨"EnclaveWardenModel", "append", "(III)I"⟩, 23) := ⟨⟨by decide +kernel, by decide +kernel⟩, List.mem_of_getElem? (i := 353) (by decide +kernel), List.mem_of_getElem? (i := 508) (by decide +kernel), List.mem_of_getElem? (i := 509) (by decide +kernel)⟩
theorem lw_p44 : lw_okq (⟨"EnclaveWardenModel", "perform", "(IIII)V"⟩, 23) := ⟨⟨by decide +kernel, by decide +kernel⟩, List.mem_of_getElem? (i := 353) (by decide +kernel), List.mem_of_getElem? (i := 512) (by decide +kernel), List.mem_of_getElem? (i := 513) (by decide +kernel)⟩
theorem lw_p45 : lw_okq (⟨"EnclaveWardenModel", "load", "(III)V"⟩, 23) := ⟨⟨by decide +kernel, by decide +kernel⟩, List.mem_of_getElem? (i := 353) (by decide +kernel), List.mem_of_getElem? (i := 516) (by decide +kernel), List.mem_of_getElem? (i := 517) (by decide +kernel)⟩
theorem lw_p46 : lw_okq (⟨"EnclaveWardenModel", "destroy", "(I)V"⟩, 23) := ⟨⟨by decide +kernel, by decide +kernel⟩, List.mem_of_getElem? (i := 353) (by decide +kernel), List.mem_of_getElem? (i := 520) (by decide +kernel), List.mem_of_getElem? (i := 521) (by decide +kernel)⟩
theorem lw_p47 : lw_okq (⟨"EnclaveWardenModel", "wipe", "(I)V"⟩, 23) := ⟨⟨by decide +kernel, by decide +kernel⟩, List.mem_of_getElem? (i := 353) (by decide +kernel), List.mem_of_getElem? (i := 524) (by decide +kernel), List.mem_of_getElem? (i := 525) (by decide +kernel)⟩
def lw_privs_3 : List (MethodName × Nat) := [(⟨"EnclaveWarden", "enclaveCall", "(IIII)I"⟩, 10), (⟨"EnclaveWarden", "macOf", "(II)I"⟩, 10), (⟨"EnclaveWarden", "obey", "(LEnclaveWarden$Core;I)V"⟩, 10), (⟨"EnclaveWardenModel", "uses", "(II)Z"⟩, 23), (⟨"EnclaveWardenModel", "kind", "(I)I"⟩, 23), (⟨"EnclaveWardenModel", "system", "(IIII)I"⟩, 23), (⟨"EnclaveWardenModel", "wrongState", "(III)Z"⟩, 23), (⟨"EnclaveWardenModel", "taken", "(IIII)Z"⟩, 23), (⟨"EnclaveWardenModel", "full", "(II)Z"⟩, 23), (⟨"EnclaveWardenModel", "create", "(II)I"⟩, 23), (⟨"EnclaveWardenModel", "add", "(II)V"⟩, 23), (⟨"EnclaveWardenModel", "append", "(III)I"⟩, 23), (⟨"EnclaveWardenModel", "perform", "(IIII)V"⟩, 23), (⟨"EnclaveWardenModel", "load", "(III)V"⟩, 23), (⟨"EnclaveWardenModel", "destroy", "(I)V"⟩, 23), (⟨"EnclaveWardenModel", "wipe", "(I)V"⟩, 23)]
theorem lw_r3 : ∀ q ∈ lw_privs_3, lw_okq q := List.forall_mem_cons.mpr ⟨lw_p32, List.forall_mem_cons.mpr ⟨lw_p33, List.forall_mem_cons.mpr ⟨lw_p34, List.forall_mem_cons.mpr ⟨lw_p35, List.forall_mem_cons.mpr ⟨lw_p36, List.forall_mem_cons.mpr ⟨lw_p37, List.forall_mem_cons.mpr ⟨lw_p38, List.forall_mem_cons.mpr ⟨lw_p39, List.forall_mem_cons.mpr ⟨lw_p40, List.forall_mem_cons.mpr ⟨lw_p41, List.forall_mem_cons.mpr ⟨lw_p42, List.forall_mem_cons.mpr ⟨lw_p43, List.forall_mem_cons.mpr ⟨lw_p44, List.forall_mem_cons.mpr ⟨lw_p45, List.forall_mem_cons.mpr ⟨lw_p46, List.forall_mem_cons.mpr ⟨lw_p47, fun _ h => absurd h List.not_mem_nil⟩⟩⟩⟩⟩⟩⟩⟩⟩⟩⟩⟩⟩⟩⟩⟩
theorem lw_p48 : lw_okq (⟨"EnclaveWardenModel", "step", "()V"⟩, 23) := ⟨⟨by decide +kernel, by decide +kernel⟩, List.mem_of_getElem? (i := 353) (by decide +kernel), List.mem_of_getElem? (i := 532) (by decide +kernel), List.mem_of_getElem? (i := 533) (by decide +kernel)⟩
theorem lw_p49 : lw_okq (⟨"EnclaveWardenModel", "leave", "(II)V"⟩, 23) := ⟨⟨by decide +kernel, by decide +kernel⟩, List.mem_of_getElem? (i := 353) (by decide +kernel), List.mem_of_getElem? (i := 536) (by decide +kernel), List.mem_of_getElem? (i := 537) (by decide +kernel)⟩
theorem lw_p50 : lw_okq (⟨"EnclaveWardenModel", "fault", "(I)V"⟩, 23) := ⟨⟨by decide +kernel, by decide +kernel⟩, List.mem_of_getElem? (i := 353) (by decide +kernel), List.mem_of_getElem? (i := 540) (by decide +kernel), List.mem_of_getElem? (i := 541) (by decide +kernel)⟩
theorem lw_p51 : lw_okq (⟨"EnclaveWardenModel", "put", "(II)V"⟩, 23) := ⟨⟨by decide +kernel, by decide +kernel⟩, List.mem_of_getElem? (i := 353) (by decide +kernel), List.mem_of_getElem? (i := 544) (by decide +kernel), List.mem_of_getElem? (i := 545) (by decide +kernel)⟩
theorem lw_p52 : lw_okq (⟨"EnclaveWardenModel", "access", "(ZII)V"⟩, 23) := ⟨⟨by decide +kernel, by decide +kernel⟩, List.mem_of_getElem? (i := 353) (by decide +kernel), List.mem_of_getElem? (i := 548) (by decide +kernel), List.mem_of_getElem? (i := 549) (by decide +kernel)⟩
theorem lw_p53 : lw_okq (⟨"EnclaveWardenModel", "ask", "(I)V"⟩, 23) := ⟨⟨by decide +kernel, by decide +kernel⟩, List.mem_of_getElem? (i := 353) (by decide +kernel), List.mem_of_getElem? (i := 552) (by decide +kernel), List.mem_of_getElem? (i := 553) (by decide +kernel)⟩
theorem lw_p54 : lw_okq (⟨"EnclaveWardenModel", "measured", "(I)I"⟩, 23) := ⟨⟨by decide +kernel, by decide +kernel⟩, List.mem_of_getElem? (i := 353) (by decide +kernel), List.mem_of_getElem? (i := 556) (by decide +kernel), List.mem_of_getElem? (i := 557) (by decide +kernel)⟩
theorem lw_p55 : lw_okq (⟨"EnclaveWardenModel", "mac", "(II)I"⟩, 23) := ⟨⟨by decide +kernel, by decide +kernel⟩, List.mem_of_getElem? (i := 353) (by decide +kernel), List.mem_of_getElem? (i := 564) (by decide +kernel), List.mem_of_getElem? (i := 565) (by decide +kernel)⟩
def lw_privs_4 : List (MethodName × Nat) := [(⟨"EnclaveWardenModel", "step", "()V"⟩, 23), (⟨"EnclaveWardenModel", "leave", "(II)V"⟩, 23), (⟨"EnclaveWardenModel", "fault", "(I)V"⟩, 23), (⟨"EnclaveWardenModel", "put", "(II)V"⟩, 23), (⟨"EnclaveWardenModel", "access", "(ZII)V"⟩, 23), (⟨"EnclaveWardenModel", "ask", "(I)V"⟩, 23), (⟨"EnclaveWardenModel", "measured", "(I)I"⟩, 23), (⟨"EnclaveWardenModel", "mac", "(II)I"⟩, 23)]
theorem lw_r4 : ∀ q ∈ lw_privs_4, lw_okq q := List.forall_mem_cons.mpr ⟨lw_p48, List.forall_mem_cons.mpr ⟨lw_p49, List.forall_mem_cons.mpr ⟨lw_p50, List.forall_mem_cons.mpr ⟨lw_p51, List.forall_mem_cons.mpr ⟨lw_p52, List.forall_mem_cons.mpr ⟨lw_p53, List.forall_mem_cons.mpr ⟨lw_p54, List.forall_mem_cons.mpr ⟨lw_p55, fun _ h => absurd h List.not_mem_nil⟩⟩⟩⟩⟩⟩⟩⟩
def lw_privs : List (MethodName × Nat) := lw_privs_1 ++ (lw_privs_2 ++ (lw_privs_3 ++ (lw_privs_4)))
def lw_tbl : List Cond := k2_sels lw_privs ++ tables_1
theorem lw_privs_ok : ∀ q ∈ lw_privs, lw_okq q := by
  show ∀ q ∈ lw_privs_1 ++ (lw_privs_2 ++ (lw_privs_3 ++ (lw_privs_4))), lw_okq q
  exact List.forall_mem_append.mpr ⟨lw_r1, List.forall_mem_append.mpr ⟨lw_r2, List.forall_mem_append.mpr ⟨lw_r3, lw_r4⟩⟩⟩
abbrev R_W : String := "EnclaveWarden"
def T_W : u_T := fun k => match k with
  | 0 => ("EnclaveWarden", "secret", "I", true)
  | 1 => ("EnclaveWarden", "memory", "[I", true)
  | 2 => ("EnclaveWarden", "kinds", "[I", true)
  | 3 => ("EnclaveWarden", "enclaves", "[LEnclaveWarden$Enclave;", true)
  | 4 => ("EnclaveWarden", "system", "LEnclaveWarden$Core;", true)
  | 5 => ("EnclaveWarden", "exits", "[I", true)
  | 6 => ("EnclaveWarden", "halted", "Z", false)
  | 7 => ("EnclaveWarden", "running", "I", false)
  | 8 => ("EnclaveWarden", "period", "I", false)
  | _ => ("EnclaveWarden", "tick", "I", false)
def ty_W : Nat → FieldType := fun k => match k with
  | 0 => .int
  | 1 => .array .int
  | 2 => .array .int
  | 3 => .array (.object "EnclaveWarden$Enclave")
  | 4 => .object "EnclaveWarden$Core"
  | 5 => .array .int
  | 6 => .boolean
  | 7 => .int
  | 8 => .int
  | _ => .int
theorem nm_W : ∀ a, a < 10 → ∀ b, b < 10 → a ≠ b → (T_W a).2.1 ≠ (T_W b).2.1 := by decide +kernel
theorem tyok_W : ∀ k, k < 10 → parseFieldDescriptor (T_W k).2.2.1 = some (ty_W k) := by decide +kernel
abbrev R_V : String := "EnclaveWarden$Enclave"
def T_V : u_T := fun k => match k with
  | 0 => ("EnclaveWarden$Enclave", "threads", "[LEnclaveWarden$EnclaveThread;", true)
  | 1 => ("EnclaveWarden$Enclave", "state", "I", false)
  | 2 => ("EnclaveWarden$Enclave", "measure", "I", false)
  | _ => ("EnclaveWarden$Enclave", "loads", "I", false)
def ty_V : Nat → FieldType := fun k => match k with
  | 0 => .array (.object "EnclaveWarden$EnclaveThread")
  | 1 => .int
  | 2 => .int
  | _ => .int
theorem nm_V : ∀ a, a < 4 → ∀ b, b < 4 → a ≠ b → (T_V a).2.1 ≠ (T_V b).2.1 := by decide +kernel
theorem tyok_V : ∀ k, k < 4 → parseFieldDescriptor (T_V k).2.2.1 = some (ty_V k) := by decide +kernel
abbrev R_T : String := "EnclaveWarden$EnclaveThread"
def T_T : u_T := fun k => match k with
  | 0 => ("EnclaveWarden$EnclaveThread", "core", "LEnclaveWarden$Core;", true)
  | 1 => ("EnclaveWarden$EnclaveThread", "state", "I", false)
  | _ => ("EnclaveWarden$EnclaveThread", "entry", "I", false)
def ty_T : Nat → FieldType := fun k => match k with
  | 0 => .object "EnclaveWarden$Core"
  | 1 => .int
  | _ => .int
theorem nm_T : ∀ a, a < 3 → ∀ b, b < 3 → a ≠ b → (T_T a).2.1 ≠ (T_T b).2.1 := by decide +kernel
theorem tyok_T : ∀ k, k < 3 → parseFieldDescriptor (T_T k).2.2.1 = some (ty_T k) := by decide +kernel
abbrev R_C : String := "EnclaveWarden$Core"
def T_C : u_T := fun k => match k with
  | 0 => ("EnclaveWarden$Core", "registers", "[I", true)
  | _ => ("EnclaveWarden$Core", "pc", "I", false)
def ty_C : Nat → FieldType := fun k => match k with
  | 0 => .array .int
  | _ => .int
theorem nm_C : ∀ a, a < 2 → ∀ b, b < 2 → a ≠ b → (T_C a).2.1 ≠ (T_C b).2.1 := by decide +kernel
theorem tyok_C : ∀ k, k < 2 → parseFieldDescriptor (T_C k).2.2.1 = some (ty_C k) := by decide +kernel
abbrev R_M : String := "EnclaveWardenModel"
def T_M : u_T := fun k => match k with
  | 0 => ("EnclaveWardenModel", "secret", "I", false)
  | 1 => ("EnclaveWardenModel", "memory", "[I", false)
  | 2 => ("EnclaveWardenModel", "own", "[Z", false)
  | 3 => ("EnclaveWardenModel", "partner", "[I", false)
  | 4 => ("EnclaveWardenModel", "stateOf", "[I", false)
  | 5 => ("EnclaveWardenModel", "from", "[I", false)
  | 6 => ("EnclaveWardenModel", "size", "[I", false)
  | 7 => ("EnclaveWardenModel", "loads", "[I", false)
  | 8 => ("EnclaveWardenModel", "added", "[I", false)
  | 9 => ("EnclaveWardenModel", "count", "[I", false)
  | 10 => ("EnclaveWardenModel", "phase", "[I", false)
  | 11 => ("EnclaveWardenModel", "entry", "[I", false)
  | 12 => ("EnclaveWardenModel", "reg", "[I", false)
  | 13 => ("EnclaveWardenModel", "place", "[I", false)
  | 14 => ("EnclaveWardenModel", "who", "I", false)
  | 15 => ("EnclaveWardenModel", "stopped", "Z", false)
  | 16 => ("EnclaveWardenModel", "rhythm", "I", false)
  | 17 => ("EnclaveWardenModel", "ticks", "I", false)
  | 18 => ("EnclaveWardenModel", "exits", "I", false)
  | 19 => ("EnclaveWardenModel", "exitEnclave", "I", false)
  | 20 => ("EnclaveWardenModel", "exitKind", "I", false)
  | 21 => ("EnclaveWardenModel", "exitValue", "I", false)
  | _ => ("EnclaveWardenModel", "exitTick", "I", false)
def ty_M : Nat → FieldType := fun k => match k with
  | 0 => .int
  | 1 => .array .int
  | 2 => .array .boolean
  | 3 => .array .int
  | 4 => .array .int
  | 5 => .array .int
  | 6 => .array .int
  | 7 => .array .int
  | 8 => .array .int
  | 9 => .array .int
  | 10 => .array .int
  | 11 => .array .int
  | 12 => .array .int
  | 13 => .array .int
  | 14 => .int
  | 15 => .boolean
  | 16 => .int
  | 17 => .int
  | 18 => .int
  | 19 => .int
  | 20 => .int
  | 21 => .int
  | _ => .int
theorem nm_M : ∀ a, a < 23 → ∀ b, b < 23 → a ≠ b → (T_M a).2.1 ≠ (T_M b).2.1 := by decide +kernel
theorem tyok_M : ∀ k, k < 23 → parseFieldDescriptor (T_M k).2.2.1 = some (ty_M k) := by decide +kernel
abbrev vwCl : List vw_C := [(R_W, T_W, 10), (R_V, T_V, 4), (R_T, T_T, 3), (R_C, T_C, 2), (R_M, T_M, 23)]
def WS : List Cond := lw_tbl.filter goodWord
theorem ws_good {w : Cond} (h : w ∈ WS) : (w.onTables && w.keeps) = true ∨ ∃ ty, w = .arrayClass ty := good_of_word (List.mem_filter.mp h).2
theorem ws_tbl {w : Cond} (h : w ∈ tables_1) (hg : goodWord w = true) : w ∈ WS := List.mem_filter.mpr ⟨List.mem_append_right _ h, hg⟩
theorem ws_sel {w : Cond} (h : w ∈ k2_sels lw_privs) (hg : goodWord w = true) : w ∈ WS := List.mem_filter.mpr ⟨List.mem_append_left _ h, hg⟩
theorem gwB {c0 cy : Cond} (h : cy ∈ WS) : GoodIn (c0 :: WS) (cy :: WS) := fun w hw => by
  have h2 : w ∈ WS := by
    rcases List.mem_cons.mp hw with rfl | q
    · exact h
    · exact q
  exact ⟨List.mem_cons_of_mem _ h2, ws_good h2⟩
theorem gwV {c0 cy : Cond} {own C : String} {idx : Nat} {y : MethodName} (h1 : Cond.methodLink own idx y ∈ WS) (h2 : Cond.instanceMethod y ∈ WS) (h3 : Cond.selects C y y ∈ WS) (h4 : Cond.initialized C ∈ WS) (h5 : cy ∈ WS) : GoodIn (c0 :: WS) (wsV own idx C y (cy :: WS)) := fun w hw => by
  have hm : w ∈ WS := by
    unfold wsV at hw
    rcases List.mem_append.mp hw with q | q
    · simp only [List.mem_cons, List.not_mem_nil, or_false] at q
      rcases q with rfl | rfl | rfl | rfl
      · exact h1
      · exact h2
      · exact h3
      · exact h4
    · rcases List.mem_cons.mp q with rfl | q
      · exact h5
      · exact q
  exact ⟨List.mem_cons_of_mem _ hm, ws_good hm⟩
theorem gwS {c0 cy : Cond} {own : String} {idx : Nat} {y : MethodName} (h1 : Cond.methodLink own idx y ∈ WS) (h2 : Cond.static y ∈ WS) (h4 : Cond.initialized own ∈ WS) (h5 : cy ∈ WS) : GoodIn (c0 :: WS) (wsS own idx y (cy :: WS)) := fun w hw => by
  have hm : w ∈ WS := by
    unfold wsS at hw
    rcases List.mem_append.mp hw with q | q
    · simp only [List.mem_cons, List.not_mem_nil, or_false] at q
      rcases q with rfl | rfl | rfl
      · exact h1
      · exact h2
      · exact h4
    · rcases List.mem_cons.mp q with rfl | q
      · exact h5
      · exact q
  exact ⟨List.mem_cons_of_mem _ hm, ws_good hm⟩
abbrev y_W_isAddress : MethodName := ⟨"EnclaveWarden", "isAddress", "(I)Z"⟩
abbrev rm_W_isAddress : Room := { frames := 0, cells := 0, slots := 0, locals := 0 }
abbrev y_W_systemMayUse : MethodName := ⟨"EnclaveWarden", "systemMayUse", "(I)Z"⟩
abbrev rm_W_systemMayUse : Room := { frames := 1, cells := 0, slots := 0, locals := 20 }
abbrev y_W_poke : MethodName := ⟨"EnclaveWarden", "poke", "(II)Z"⟩
abbrev rm_W_poke : Room := { frames := 2, cells := 0, slots := 0, locals := 42 }
abbrev y_W_peek : MethodName := ⟨"EnclaveWarden", "peek", "(I)I"⟩
abbrev rm_W_peek : Room := { frames := 2, cells := 0, slots := 0, locals := 42 }
abbrev y_W_bare : MethodName := ⟨"EnclaveWarden", "bare", "(I)I"⟩
abbrev rm_W_bare : Room := { frames := 1, cells := 0, slots := 0, locals := 20 }
abbrev y_C_put : MethodName := ⟨"EnclaveWarden$Core", "put", "(II)V"⟩
abbrev rm_C_put : Room := { frames := 0, cells := 0, slots := 0, locals := 0 }
abbrev y_W_give : MethodName := ⟨"EnclaveWarden", "give", "(II)Z"⟩
abbrev rm_W_give : Room := { frames := 1, cells := 0, slots := 0, locals := 22 }
abbrev y_C_get : MethodName := ⟨"EnclaveWarden$Core", "get", "(I)I"⟩
abbrev rm_C_get : Room := { frames := 0, cells := 0, slots := 0, locals := 0 }
abbrev y_W_register : MethodName := ⟨"EnclaveWarden", "register", "(I)I"⟩
abbrev rm_W_register : Room := { frames := 1, cells := 0, slots := 0, locals := 21 }
abbrev y_W_pc : MethodName := ⟨"EnclaveWarden", "pc", "()I"⟩
abbrev rm_W_pc : Room := { frames := 0, cells := 0, slots := 0, locals := 0 }
abbrev y_W_boot : MethodName := ⟨"EnclaveWarden", "boot", "(I)Z"⟩
abbrev rm_W_boot : Room := { frames := 0, cells := 0, slots := 0, locals := 0 }
abbrev y_W_halted : MethodName := ⟨"EnclaveWarden", "halted", "()Z"⟩
abbrev rm_W_halted : Room := { frames := 0, cells := 0, slots := 0, locals := 0 }
abbrev y_W_isRegion : MethodName := ⟨"EnclaveWarden", "isRegion", "(I)Z"⟩
abbrev rm_W_isRegion : Room := { frames := 0, cells := 0, slots := 0, locals := 0 }
abbrev y_W_allFree : MethodName := ⟨"EnclaveWarden", "allFree", "(II)Z"⟩
abbrev rm_W_allFree : Room := { frames := 0, cells := 0, slots := 0, locals := 0 }
abbrev y_W_leastAbsent : MethodName := ⟨"EnclaveWarden", "leastAbsent", "()I"⟩
abbrev rm_W_leastAbsent : Room := { frames := 0, cells := 0, slots := 0, locals := 0 }
abbrev y_V_become : MethodName := ⟨"EnclaveWarden$Enclave", "become", "(I)V"⟩
abbrev rm_V_become : Room := { frames := 0, cells := 0, slots := 0, locals := 0 }
abbrev y_W_mix : MethodName := ⟨"EnclaveWarden", "mix", "(II)I"⟩
abbrev rm_W_mix : Room := { frames := 0, cells := 0, slots := 0, locals := 0 }
abbrev y_V_add : MethodName := ⟨"EnclaveWarden$Enclave", "add", "(I)V"⟩
abbrev rm_V_add : Room := { frames := 1, cells := 0, slots := 0, locals := 22 }
abbrev y_W_create : MethodName := ⟨"EnclaveWarden", "create", "(II)I"⟩
abbrev rm_W_create : Room := { frames := 2, cells := 0, slots := 0, locals := 43 }
abbrev y_W_isEnclave : MethodName := ⟨"EnclaveWarden", "isEnclave", "(I)Z"⟩
abbrev rm_W_isEnclave : Room := { frames := 0, cells := 0, slots := 0, locals := 0 }
abbrev y_W_load : MethodName := ⟨"EnclaveWarden", "load", "(III)I"⟩
abbrev rm_W_load : Room := { frames := 2, cells := 0, slots := 0, locals := 43 }
abbrev y_V_threadCount : MethodName := ⟨"EnclaveWarden$Enclave", "threadCount", "()I"⟩
abbrev rm_V_threadCount : Room := { frames := 0, cells := 0, slots := 0, locals := 0 }
abbrev y_W_addThread : MethodName := ⟨"EnclaveWarden", "addThread", "(II)I"⟩
abbrev rm_W_addThread : Room := { frames := 2, cells := 0, slots := 0, locals := 43 }
abbrev y_W_seal : MethodName := ⟨"EnclaveWarden", "seal", "(I)I"⟩
abbrev rm_W_seal : Room := { frames := 2, cells := 0, slots := 0, locals := 43 }
abbrev y_W_sharedWith : MethodName := ⟨"EnclaveWarden", "sharedWith", "(I)I"⟩
abbrev rm_W_sharedWith : Room := { frames := 0, cells := 0, slots := 0, locals := 0 }
abbrev y_W_share : MethodName := ⟨"EnclaveWarden", "share", "(II)I"⟩
abbrev rm_W_share : Room := { frames := 1, cells := 0, slots := 0, locals := 23 }
abbrev y_W_isThread : MethodName := ⟨"EnclaveWarden", "isThread", "(I)Z"⟩
abbrev rm_W_isThread : Room := { frames := 0, cells := 0, slots := 0, locals := 0 }
abbrev y_W_refusalToStart : MethodName := ⟨"EnclaveWarden", "refusalToStart", "(III)I"⟩
abbrev rm_W_refusalToStart : Room := { frames := 1, cells := 0, slots := 0, locals := 20 }
abbrev y_C_start : MethodName := ⟨"EnclaveWarden$Core", "start", "(II)V"⟩
abbrev rm_C_start : Room := { frames := 1, cells := 0, slots := 0, locals := 22 }
abbrev y_W_handOver : MethodName := ⟨"EnclaveWarden", "handOver", "(II)V"⟩
abbrev rm_W_handOver : Room := { frames := 0, cells := 0, slots := 0, locals := 0 }
abbrev y_W_enter : MethodName := ⟨"EnclaveWarden", "enter", "(III)I"⟩
abbrev rm_W_enter : Room := { frames := 2, cells := 0, slots := 0, locals := 45 }
abbrev y_W_resume : MethodName := ⟨"EnclaveWarden", "resume", "(II)I"⟩
abbrev rm_W_resume : Room := { frames := 2, cells := 0, slots := 0, locals := 44 }
abbrev y_W_stop : MethodName := ⟨"EnclaveWarden", "stop", "(I)I"⟩
abbrev rm_W_stop : Room := { frames := 1, cells := 0, slots := 0, locals := 20 }
abbrev y_W_free : MethodName := ⟨"EnclaveWarden", "free", "(I)V"⟩
abbrev rm_W_free : Room := { frames := 0, cells := 0, slots := 0, locals := 0 }
abbrev y_W_destroy : MethodName := ⟨"EnclaveWarden", "destroy", "(I)I"⟩
abbrev rm_W_destroy : Room := { frames := 1, cells := 0, slots := 0, locals := 22 }
abbrev y_W_claim : MethodName := ⟨"EnclaveWarden", "claim", "(I)I"⟩
abbrev rm_W_claim : Room := { frames := 1, cells := 0, slots := 0, locals := 20 }
abbrev y_W_giveUp : MethodName := ⟨"EnclaveWarden", "giveUp", "(I)I"⟩
abbrev rm_W_giveUp : Room := { frames := 1, cells := 0, slots := 0, locals := 22 }
abbrev y_W_systemCall : MethodName := ⟨"EnclaveWarden", "systemCall", "(IIII)I"⟩
abbrev rm_W_systemCall : Room := { frames := 3, cells := 0, slots := 0, locals := 70 }
abbrev y_W_call : MethodName := ⟨"EnclaveWarden", "call", "(IIII)I"⟩
abbrev rm_W_call : Room := { frames := 4, cells := 0, slots := 0, locals := 94 }
abbrev y_W_runningThread : MethodName := ⟨"EnclaveWarden", "runningThread", "()LEnclaveWarden$EnclaveThread;"⟩
abbrev rm_W_runningThread : Room := { frames := 0, cells := 0, slots := 0, locals := 0 }
abbrev y_W_leave : MethodName := ⟨"EnclaveWarden", "leave", "(III)V"⟩
abbrev rm_W_leave : Room := { frames := 1, cells := 0, slots := 0, locals := 22 }
abbrev y_W_enclaveMayUse : MethodName := ⟨"EnclaveWarden", "enclaveMayUse", "(II)Z"⟩
abbrev rm_W_enclaveMayUse : Room := { frames := 1, cells := 0, slots := 0, locals := 20 }
abbrev y_W_runnerMayUse : MethodName := ⟨"EnclaveWarden", "runnerMayUse", "(I)Z"⟩
abbrev rm_W_runnerMayUse : Room := { frames := 2, cells := 0, slots := 0, locals := 43 }
abbrev y_W_fault : MethodName := ⟨"EnclaveWarden", "fault", "(I)V"⟩
abbrev rm_W_fault : Room := { frames := 2, cells := 0, slots := 0, locals := 45 }
abbrev y_W_macOf : MethodName := ⟨"EnclaveWarden", "macOf", "(II)I"⟩
abbrev rm_W_macOf : Room := { frames := 1, cells := 0, slots := 0, locals := 22 }
abbrev y_W_enclaveCall : MethodName := ⟨"EnclaveWarden", "enclaveCall", "(IIII)I"⟩
abbrev rm_W_enclaveCall : Room := { frames := 2, cells := 0, slots := 0, locals := 45 }
abbrev y_W_obeyCall : MethodName := ⟨"EnclaveWarden", "obeyCall", "(LEnclaveWarden$Core;I)V"⟩
abbrev rm_W_obeyCall : Room := { frames := 4, cells := 0, slots := 0, locals := 94 }
abbrev y_W_branch : MethodName := ⟨"EnclaveWarden", "branch", "(LEnclaveWarden$Core;ZI)V"⟩
abbrev rm_W_branch : Room := { frames := 0, cells := 0, slots := 0, locals := 0 }
abbrev y_W_obey : MethodName := ⟨"EnclaveWarden", "obey", "(LEnclaveWarden$Core;I)V"⟩
abbrev rm_W_obey : Room := { frames := 3, cells := 0, slots := 0, locals := 66 }
abbrev y_W_step : MethodName := ⟨"EnclaveWarden", "step", "()V"⟩
abbrev rm_W_step : Room := { frames := 5, cells := 0, slots := 0, locals := 121 }
abbrev y_W_run : MethodName := ⟨"EnclaveWarden", "run", "(I)I"⟩
abbrev rm_W_run : Room := { frames := 6, cells := 0, slots := 0, locals := 143 }
abbrev y_W_period : MethodName := ⟨"EnclaveWarden", "period", "(I)V"⟩
abbrev rm_W_period : Room := { frames := 0, cells := 0, slots := 0, locals := 0 }
abbrev y_W_tick : MethodName := ⟨"EnclaveWarden", "tick", "()I"⟩
abbrev rm_W_tick : Room := { frames := 0, cells := 0, slots := 0, locals := 0 }
abbrev y_W_running : MethodName := ⟨"EnclaveWarden", "running", "()I"⟩
abbrev rm_W_running : Room := { frames := 0, cells := 0, slots := 0, locals := 0 }
abbrev y_W_region : MethodName := ⟨"EnclaveWarden", "region", "(I)I"⟩
abbrev rm_W_region : Room := { frames := 1, cells := 0, slots := 0, locals := 20 }
abbrev y_W_enclave : MethodName := ⟨"EnclaveWarden", "enclave", "(I)I"⟩
abbrev rm_W_enclave : Room := { frames := 1, cells := 0, slots := 0, locals := 20 }
abbrev y_W_thread : MethodName := ⟨"EnclaveWarden", "thread", "(II)I"⟩
abbrev rm_W_thread : Room := { frames := 1, cells := 0, slots := 0, locals := 20 }
abbrev y_W_kept : MethodName := ⟨"EnclaveWarden", "kept", "(III)I"⟩
abbrev rm_W_kept : Room := { frames := 1, cells := 0, slots := 0, locals := 21 }
abbrev y_W_measure : MethodName := ⟨"EnclaveWarden", "measure", "(I)I"⟩
abbrev rm_W_measure : Room := { frames := 1, cells := 0, slots := 0, locals := 20 }
abbrev y_W_vouch : MethodName := ⟨"EnclaveWarden", "vouch", "(III)Z"⟩
abbrev rm_W_vouch : Room := { frames := 2, cells := 0, slots := 0, locals := 44 }
abbrev y_W_exit : MethodName := ⟨"EnclaveWarden", "exit", "(I)I"⟩
abbrev rm_W_exit : Room := { frames := 0, cells := 0, slots := 0, locals := 0 }
abbrev y_M_outside : MethodName := ⟨"EnclaveWardenModel", "outside", "(II)Z"⟩
abbrev rm_M_outside : Room := { frames := 0, cells := 0, slots := 0, locals := 0 }
abbrev y_M_kind : MethodName := ⟨"EnclaveWardenModel", "kind", "(I)I"⟩
abbrev rm_M_kind : Room := { frames := 0, cells := 0, slots := 0, locals := 0 }
abbrev y_M_uses : MethodName := ⟨"EnclaveWardenModel", "uses", "(II)Z"⟩
abbrev rm_M_uses : Room := { frames := 1, cells := 0, slots := 0, locals := 22 }
abbrev y_M_mix : MethodName := ⟨"EnclaveWardenModel", "mix", "(II)I"⟩
abbrev rm_M_mix : Room := { frames := 0, cells := 0, slots := 0, locals := 0 }
abbrev y_M_mac : MethodName := ⟨"EnclaveWardenModel", "mac", "(II)I"⟩
abbrev rm_M_mac : Room := { frames := 1, cells := 0, slots := 0, locals := 22 }
abbrev y_M_add : MethodName := ⟨"EnclaveWardenModel", "add", "(II)V"⟩
abbrev rm_M_add : Room := { frames := 0, cells := 0, slots := 0, locals := 0 }
abbrev y_M_measured : MethodName := ⟨"EnclaveWardenModel", "measured", "(I)I"⟩
abbrev rm_M_measured : Room := { frames := 1, cells := 0, slots := 0, locals := 22 }
abbrev y_M_bad : MethodName := ⟨"EnclaveWardenModel", "bad", "(IIII)Z"⟩
abbrev rm_M_bad : Room := { frames := 1, cells := 0, slots := 0, locals := 21 }
abbrev y_M_wrongState : MethodName := ⟨"EnclaveWardenModel", "wrongState", "(III)Z"⟩
abbrev rm_M_wrongState : Room := { frames := 0, cells := 0, slots := 0, locals := 0 }
abbrev y_M_taken : MethodName := ⟨"EnclaveWardenModel", "taken", "(IIII)Z"⟩
abbrev rm_M_taken : Room := { frames := 1, cells := 0, slots := 0, locals := 22 }
abbrev y_M_full : MethodName := ⟨"EnclaveWardenModel", "full", "(II)Z"⟩
abbrev rm_M_full : Room := { frames := 1, cells := 0, slots := 0, locals := 22 }
abbrev y_M_create : MethodName := ⟨"EnclaveWardenModel", "create", "(II)I"⟩
abbrev rm_M_create : Room := { frames := 1, cells := 0, slots := 0, locals := 22 }
abbrev y_M_thread : MethodName := ⟨"EnclaveWardenModel", "thread", "(II)I"⟩
abbrev rm_M_thread : Room := { frames := 1, cells := 0, slots := 0, locals := 21 }
abbrev y_M_append : MethodName := ⟨"EnclaveWardenModel", "append", "(III)I"⟩
abbrev rm_M_append : Room := { frames := 1, cells := 0, slots := 0, locals := 22 }
abbrev y_M_load : MethodName := ⟨"EnclaveWardenModel", "load", "(III)V"⟩
abbrev rm_M_load : Room := { frames := 1, cells := 0, slots := 0, locals := 22 }
abbrev y_M_wipe : MethodName := ⟨"EnclaveWardenModel", "wipe", "(I)V"⟩
abbrev rm_M_wipe : Room := { frames := 0, cells := 0, slots := 0, locals := 0 }
abbrev y_M_destroy : MethodName := ⟨"EnclaveWardenModel", "destroy", "(I)V"⟩
abbrev rm_M_destroy : Room := { frames := 1, cells := 0, slots := 0, locals := 22 }
abbrev y_M_perform : MethodName := ⟨"EnclaveWardenModel", "perform", "(IIII)V"⟩
abbrev rm_M_perform : Room := { frames := 2, cells := 0, slots := 0, locals := 46 }
abbrev y_M_system : MethodName := ⟨"EnclaveWardenModel", "system", "(IIII)I"⟩
abbrev rm_M_system : Room := { frames := 3, cells := 0, slots := 0, locals := 71 }
abbrev y_M_leave : MethodName := ⟨"EnclaveWardenModel", "leave", "(II)V"⟩
abbrev rm_M_leave : Room := { frames := 0, cells := 0, slots := 0, locals := 0 }
abbrev y_M_fault : MethodName := ⟨"EnclaveWardenModel", "fault", "(I)V"⟩
abbrev rm_M_fault : Room := { frames := 1, cells := 0, slots := 0, locals := 22 }
abbrev y_M_put : MethodName := ⟨"EnclaveWardenModel", "put", "(II)V"⟩
abbrev rm_M_put : Room := { frames := 0, cells := 0, slots := 0, locals := 0 }
abbrev y_M_access : MethodName := ⟨"EnclaveWardenModel", "access", "(ZII)V"⟩
abbrev rm_M_access : Room := { frames := 2, cells := 0, slots := 0, locals := 45 }
abbrev y_M_ask : MethodName := ⟨"EnclaveWardenModel", "ask", "(I)V"⟩
abbrev rm_M_ask : Room := { frames := 4, cells := 0, slots := 0, locals := 95 }
abbrev y_M_step : MethodName := ⟨"EnclaveWardenModel", "step", "()V"⟩
abbrev rm_M_step : Room := { frames := 5, cells := 0, slots := 0, locals := 120 }
abbrev y_M_poke : MethodName := ⟨"EnclaveWardenModel", "poke", "(II)Z"⟩
abbrev rm_M_poke : Room := { frames := 2, cells := 0, slots := 0, locals := 45 }
abbrev y_M_peek : MethodName := ⟨"EnclaveWardenModel", "peek", "(I)I"⟩
abbrev rm_M_peek : Room := { frames := 2, cells := 0, slots := 0, locals := 45 }
abbrev y_M_bare : MethodName := ⟨"EnclaveWardenModel", "bare", "(I)I"⟩
abbrev rm_M_bare : Room := { frames := 1, cells := 0, slots := 0, locals := 21 }
abbrev y_M_give : MethodName := ⟨"EnclaveWardenModel", "give", "(II)Z"⟩
abbrev rm_M_give : Room := { frames := 0, cells := 0, slots := 0, locals := 0 }
abbrev y_M_register : MethodName := ⟨"EnclaveWardenModel", "register", "(I)I"⟩
abbrev rm_M_register : Room := { frames := 1, cells := 0, slots := 0, locals := 21 }
abbrev y_M_pc : MethodName := ⟨"EnclaveWardenModel", "pc", "()I"⟩
abbrev rm_M_pc : Room := { frames := 0, cells := 0, slots := 0, locals := 0 }
abbrev y_M_boot : MethodName := ⟨"EnclaveWardenModel", "boot", "(I)Z"⟩
abbrev rm_M_boot : Room := { frames := 0, cells := 0, slots := 0, locals := 0 }
abbrev y_M_halted : MethodName := ⟨"EnclaveWardenModel", "halted", "()Z"⟩
abbrev rm_M_halted : Room := { frames := 0, cells := 0, slots := 0, locals := 0 }
abbrev y_M_call : MethodName := ⟨"EnclaveWardenModel", "call", "(IIII)I"⟩
abbrev rm_M_call : Room := { frames := 4, cells := 0, slots := 0, locals := 95 }
abbrev y_M_run : MethodName := ⟨"EnclaveWardenModel", "run", "(I)I"⟩
abbrev rm_M_run : Room := { frames := 6, cells := 0, slots := 0, locals := 150 }
abbrev y_M_period : MethodName := ⟨"EnclaveWardenModel", "period", "(I)V"⟩
abbrev rm_M_period : Room := { frames := 0, cells := 0, slots := 0, locals := 0 }
abbrev y_M_tick : MethodName := ⟨"EnclaveWardenModel", "tick", "()I"⟩
abbrev rm_M_tick : Room := { frames := 0, cells := 0, slots := 0, locals := 0 }
abbrev y_M_running : MethodName := ⟨"EnclaveWardenModel", "running", "()I"⟩
abbrev rm_M_running : Room := { frames := 0, cells := 0, slots := 0, locals := 0 }
abbrev y_M_region : MethodName := ⟨"EnclaveWardenModel", "region", "(I)I"⟩
abbrev rm_M_region : Room := { frames := 1, cells := 0, slots := 0, locals := 22 }
abbrev y_M_enclave : MethodName := ⟨"EnclaveWardenModel", "enclave", "(I)I"⟩
abbrev rm_M_enclave : Room := { frames := 1, cells := 0, slots := 0, locals := 21 }
abbrev y_M_kept : MethodName := ⟨"EnclaveWardenModel", "kept", "(III)I"⟩
abbrev rm_M_kept : Room := { frames := 2, cells := 0, slots := 0, locals := 43 }
abbrev y_M_measure : MethodName := ⟨"EnclaveWardenModel", "measure", "(I)I"⟩
abbrev rm_M_measure : Room := { frames := 2, cells := 0, slots := 0, locals := 45 }
abbrev y_M_vouch : MethodName := ⟨"EnclaveWardenModel", "vouch", "(III)Z"⟩
abbrev rm_M_vouch : Room := { frames := 2, cells := 0, slots := 0, locals := 45 }
abbrev y_M_exit : MethodName := ⟨"EnclaveWardenModel", "exit", "(I)I"⟩
abbrev rm_M_exit : Room := { frames := 0, cells := 0, slots := 0, locals := 0 }
def nwE : List Cond := [Cond.methodLinkNest "EnclaveWarden" 26 ⟨"EnclaveWarden$Enclave", "<init>", "()V"⟩ "EnclaveWarden",
  Cond.methodLinkNest "EnclaveWarden$Enclave" 17 ⟨"EnclaveWarden$EnclaveThread", "<init>", "()V"⟩ "EnclaveWarden",
  Cond.methodLinkNest "EnclaveWarden$EnclaveThread" 11 ⟨"EnclaveWarden$Core", "<init>", "()V"⟩ "EnclaveWarden",
  Cond.fieldLinkNest "EnclaveWarden" 65 "EnclaveWarden$Core" "pc" "I" "EnclaveWarden",
  Cond.fieldLinkNest "EnclaveWarden" 94 "EnclaveWarden$EnclaveThread" "core" "LEnclaveWarden$Core;" "EnclaveWarden",
  Cond.fieldLinkNest "EnclaveWarden$Enclave" 32 "EnclaveWarden$EnclaveThread" "state" "I" "EnclaveWarden",
  Cond.fieldLinkNest "EnclaveWarden" 91 "EnclaveWarden$EnclaveThread" "state" "I" "EnclaveWarden",
  Cond.fieldLinkNest "EnclaveWarden" 194 "EnclaveWarden$EnclaveThread" "entry" "I" "EnclaveWarden",
  Cond.fieldLinkNest "EnclaveWarden" 87 "EnclaveWarden$Enclave" "threads" "[LEnclaveWarden$EnclaveThread;" "EnclaveWarden",
  Cond.fieldLinkNest "EnclaveWarden" 81 "EnclaveWarden$Enclave" "state" "I" "EnclaveWarden",
  Cond.fieldLinkNest "EnclaveWarden" 97 "EnclaveWarden$Enclave" "measure" "I" "EnclaveWarden",
  Cond.fieldLinkNest "EnclaveWarden" 188 "EnclaveWarden$Enclave" "loads" "I" "EnclaveWarden",
  Cond.methodLinkNest "EnclaveWarden" 29 ⟨"EnclaveWarden$Core", "<init>", "()V"⟩ "EnclaveWarden",
  Cond.methodLinkNest "EnclaveWarden" 57 ⟨"EnclaveWarden$Core", "put", "(II)V"⟩ "EnclaveWarden",
  Cond.methodLinkNest "EnclaveWarden" 61 ⟨"EnclaveWarden$Core", "get", "(I)I"⟩ "EnclaveWarden",
  Cond.methodLinkNest "EnclaveWarden" 182 ⟨"EnclaveWarden$Enclave", "become", "(I)V"⟩ "EnclaveWarden",
  Cond.methodLinkNest "EnclaveWarden" 185 ⟨"EnclaveWarden$Enclave", "add", "(I)V"⟩ "EnclaveWarden",
  Cond.methodLinkNest "EnclaveWarden$Enclave" 33 ⟨"EnclaveWarden", "mix", "(II)I"⟩ "EnclaveWarden",
  Cond.methodLinkNest "EnclaveWarden" 191 ⟨"EnclaveWarden$Enclave", "threadCount", "()I"⟩ "EnclaveWarden",
  Cond.methodLinkNest "EnclaveWarden" 203 ⟨"EnclaveWarden$Core", "start", "(II)V"⟩ "EnclaveWarden"]
theorem nwOk_E : nwOk nwE = true := rfl
theorem nwOk_M : nwOk ([] : List Cond) = true := rfl
theorem nw_0 : Cond.methodLinkNest "EnclaveWarden" 26 ⟨"EnclaveWarden$Enclave", "<init>", "()V"⟩ "EnclaveWarden" ∈ nwE := List.mem_of_getElem? (i := 0) rfl
theorem nw_1 : Cond.methodLinkNest "EnclaveWarden$Enclave" 17 ⟨"EnclaveWarden$EnclaveThread", "<init>", "()V"⟩ "EnclaveWarden" ∈ nwE := List.mem_of_getElem? (i := 1) rfl
theorem nw_2 : Cond.methodLinkNest "EnclaveWarden$EnclaveThread" 11 ⟨"EnclaveWarden$Core", "<init>", "()V"⟩ "EnclaveWarden" ∈ nwE := List.mem_of_getElem? (i := 2) rfl
theorem nw_3 : Cond.fieldLinkNest "EnclaveWarden" 65 "EnclaveWarden$Core" "pc" "I" "EnclaveWarden" ∈ nwE := List.mem_of_getElem? (i := 3) rfl
theorem nw_4 : Cond.fieldLinkNest "EnclaveWarden" 94 "EnclaveWarden$EnclaveThread" "core" "LEnclaveWarden$Core;" "EnclaveWarden" ∈ nwE := List.mem_of_getElem? (i := 4) rfl
theorem nw_5 : Cond.fieldLinkNest "EnclaveWarden$Enclave" 32 "EnclaveWarden$EnclaveThread" "state" "I" "EnclaveWarden" ∈ nwE := List.mem_of_getElem? (i := 5) rfl
theorem nw_6 : Cond.fieldLinkNest "EnclaveWarden" 91 "EnclaveWarden$EnclaveThread" "state" "I" "EnclaveWarden" ∈ nwE := List.mem_of_getElem? (i := 6) rfl
theorem nw_7 : Cond.fieldLinkNest "EnclaveWarden" 194 "EnclaveWarden$EnclaveThread" "entry" "I" "EnclaveWarden" ∈ nwE := List.mem_of_getElem? (i := 7) rfl
theorem nw_8 : Cond.fieldLinkNest "EnclaveWarden" 87 "EnclaveWarden$Enclave" "threads" "[LEnclaveWarden$EnclaveThread;" "EnclaveWarden" ∈ nwE := List.mem_of_getElem? (i := 8) rfl
theorem nw_9 : Cond.fieldLinkNest "EnclaveWarden" 81 "EnclaveWarden$Enclave" "state" "I" "EnclaveWarden" ∈ nwE := List.mem_of_getElem? (i := 9) rfl
theorem nw_10 : Cond.fieldLinkNest "EnclaveWarden" 97 "EnclaveWarden$Enclave" "measure" "I" "EnclaveWarden" ∈ nwE := List.mem_of_getElem? (i := 10) rfl
theorem nw_11 : Cond.fieldLinkNest "EnclaveWarden" 188 "EnclaveWarden$Enclave" "loads" "I" "EnclaveWarden" ∈ nwE := List.mem_of_getElem? (i := 11) rfl
theorem nw_12 : Cond.methodLinkNest "EnclaveWarden" 29 ⟨"EnclaveWarden$Core", "<init>", "()V"⟩ "EnclaveWarden" ∈ nwE := List.mem_of_getElem? (i := 12) rfl
theorem nw_13 : Cond.methodLinkNest "EnclaveWarden" 57 ⟨"EnclaveWarden$Core", "put", "(II)V"⟩ "EnclaveWarden" ∈ nwE := List.mem_of_getElem? (i := 13) rfl
theorem nw_14 : Cond.methodLinkNest "EnclaveWarden" 61 ⟨"EnclaveWarden$Core", "get", "(I)I"⟩ "EnclaveWarden" ∈ nwE := List.mem_of_getElem? (i := 14) rfl
theorem nw_15 : Cond.methodLinkNest "EnclaveWarden" 182 ⟨"EnclaveWarden$Enclave", "become", "(I)V"⟩ "EnclaveWarden" ∈ nwE := List.mem_of_getElem? (i := 15) rfl
theorem nw_16 : Cond.methodLinkNest "EnclaveWarden" 185 ⟨"EnclaveWarden$Enclave", "add", "(I)V"⟩ "EnclaveWarden" ∈ nwE := List.mem_of_getElem? (i := 16) rfl
theorem nw_17 : Cond.methodLinkNest "EnclaveWarden$Enclave" 33 ⟨"EnclaveWarden", "mix", "(II)I"⟩ "EnclaveWarden" ∈ nwE := List.mem_of_getElem? (i := 17) rfl
theorem nw_18 : Cond.methodLinkNest "EnclaveWarden" 191 ⟨"EnclaveWarden$Enclave", "threadCount", "()I"⟩ "EnclaveWarden" ∈ nwE := List.mem_of_getElem? (i := 18) rfl
theorem nw_19 : Cond.methodLinkNest "EnclaveWarden" 203 ⟨"EnclaveWarden$Core", "start", "(II)V"⟩ "EnclaveWarden" ∈ nwE := List.mem_of_getElem? (i := 19) rfl
theorem w_1 : Cond.initialized "EnclaveWarden" ∈ WS := ws_tbl (show _ ∈ tables_1 from List.mem_append_left _ (show _ ∈ tables_1_1 from List.mem_of_getElem? (i := 1) (by decide +kernel))) (by decide +kernel)
theorem w_2 : Cond.initialized "EnclaveWarden$Enclave" ∈ WS := ws_tbl (show _ ∈ tables_1 from List.mem_append_left _ (show _ ∈ tables_1_1 from List.mem_of_getElem? (i := 2) (by decide +kernel))) (by decide +kernel)
theorem w_4 : Cond.initialized "EnclaveWarden$Core" ∈ WS := ws_tbl (show _ ∈ tables_1 from List.mem_append_left _ (show _ ∈ tables_1_1 from List.mem_of_getElem? (i := 4) (by decide +kernel))) (by decide +kernel)
theorem w_5 : Cond.initialized "EnclaveWardenModel" ∈ WS := ws_tbl (show _ ∈ tables_1 from List.mem_append_left _ (show _ ∈ tables_1_1 from List.mem_of_getElem? (i := 5) (by decide +kernel))) (by decide +kernel)
theorem w_34 : Cond.fieldLink "EnclaveWarden$Core" 9 "EnclaveWarden$Core" "registers" "[I" ∈ WS := ws_tbl (show _ ∈ tables_1 from List.mem_append_left _ (show _ ∈ tables_1_1 from List.mem_of_getElem? (i := 34) (by decide +kernel))) (by decide +kernel)
theorem w_35 : Cond.fieldLink "EnclaveWarden$Core" 15 "EnclaveWarden$Core" "pc" "I" ∈ WS := ws_tbl (show _ ∈ tables_1 from List.mem_append_left _ (show _ ∈ tables_1_1 from List.mem_of_getElem? (i := 35) (by decide +kernel))) (by decide +kernel)
theorem w_37 : Cond.laysFinal "EnclaveWarden$Core" "EnclaveWarden$Core" "registers" "[I" ∈ WS := ws_tbl (show _ ∈ tables_1 from List.mem_append_left _ (show _ ∈ tables_1_1 from List.mem_of_getElem? (i := 37) (by decide +kernel))) (by decide +kernel)
theorem w_39 : Cond.lays "EnclaveWarden$Core" "EnclaveWarden$Core" "pc" "I" ∈ WS := ws_tbl (show _ ∈ tables_1 from List.mem_append_left _ (show _ ∈ tables_1_1 from List.mem_of_getElem? (i := 39) (by decide +kernel))) (by decide +kernel)
theorem w_50 : Cond.laysFinal "EnclaveWarden$EnclaveThread" "EnclaveWarden$EnclaveThread" "core" "LEnclaveWarden$Core;" ∈ WS := ws_tbl (show _ ∈ tables_1 from List.mem_append_left _ (show _ ∈ tables_1_1 from List.mem_of_getElem? (i := 50) (by decide +kernel))) (by decide +kernel)
theorem w_52 : Cond.lays "EnclaveWarden$EnclaveThread" "EnclaveWarden$EnclaveThread" "state" "I" ∈ WS := ws_tbl (show _ ∈ tables_1 from List.mem_append_left _ (show _ ∈ tables_1_1 from List.mem_of_getElem? (i := 52) (by decide +kernel))) (by decide +kernel)
theorem w_54 : Cond.lays "EnclaveWarden$EnclaveThread" "EnclaveWarden$EnclaveThread" "entry" "I" ∈ WS := ws_tbl (show _ ∈ tables_1 from List.mem_append_left _ (show _ ∈ tables_1_1 from List.mem_of_getElem? (i := 54) (by decide +kernel))) (by decide +kernel)
theorem w_59 : Cond.instanceMethod ⟨"EnclaveWarden$Enclave", "become", "(I)V"⟩ ∈ WS := ws_tbl (show _ ∈ tables_1 from List.mem_append_left _ (show _ ∈ tables_1_1 from List.mem_of_getElem? (i := 59) (by decide +kernel))) (by decide +kernel)
theorem w_60 : Cond.code ⟨"EnclaveWarden$Enclave", "become", "(I)V"⟩ prog_3_method_2_code 3 none ∈ WS := ws_tbl (show _ ∈ tables_1 from List.mem_append_left _ (show _ ∈ tables_1_1 from List.mem_of_getElem? (i := 60) rfl)) (by decide +kernel)
theorem w_61 : Cond.fieldLink "EnclaveWarden$Enclave" 11 "EnclaveWarden$Enclave" "threads" "[LEnclaveWarden$EnclaveThread;" ∈ WS := ws_tbl (show _ ∈ tables_1 from List.mem_append_left _ (show _ ∈ tables_1_1 from List.mem_of_getElem? (i := 61) (by decide +kernel))) (by decide +kernel)
theorem w_63 : Cond.fieldLink "EnclaveWarden$Enclave" 22 "EnclaveWarden$Enclave" "state" "I" ∈ WS := ws_tbl (show _ ∈ tables_1 from List.mem_append_left _ (show _ ∈ tables_1_1 from List.mem_of_getElem? (i := 63) (by decide +kernel))) (by decide +kernel)
theorem w_65 : Cond.fieldLink "EnclaveWarden$Enclave" 26 "EnclaveWarden$Enclave" "measure" "I" ∈ WS := ws_tbl (show _ ∈ tables_1 from List.mem_append_left _ (show _ ∈ tables_1_1 from List.mem_of_getElem? (i := 65) (by decide +kernel))) (by decide +kernel)
theorem w_67 : Cond.fieldLink "EnclaveWarden$Enclave" 29 "EnclaveWarden$Enclave" "loads" "I" ∈ WS := ws_tbl (show _ ∈ tables_1 from List.mem_append_left _ (show _ ∈ tables_1_1 from List.mem_of_getElem? (i := 67) (by decide +kernel))) (by decide +kernel)
theorem w_69 : Cond.laysFinal "EnclaveWarden$Enclave" "EnclaveWarden$Enclave" "threads" "[LEnclaveWarden$EnclaveThread;" ∈ WS := ws_tbl (show _ ∈ tables_1 from List.mem_append_left _ (show _ ∈ tables_1_1 from List.mem_of_getElem? (i := 69) (by decide +kernel))) (by decide +kernel)
theorem w_71 : Cond.lays "EnclaveWarden$Enclave" "EnclaveWarden$Enclave" "state" "I" ∈ WS := ws_tbl (show _ ∈ tables_1 from List.mem_append_left _ (show _ ∈ tables_1_1 from List.mem_of_getElem? (i := 71) (by decide +kernel))) (by decide +kernel)
theorem w_73 : Cond.lays "EnclaveWarden$Enclave" "EnclaveWarden$Enclave" "measure" "I" ∈ WS := ws_tbl (show _ ∈ tables_1 from List.mem_append_left _ (show _ ∈ tables_1_1 from List.mem_of_getElem? (i := 73) (by decide +kernel))) (by decide +kernel)
theorem w_75 : Cond.lays "EnclaveWarden$Enclave" "EnclaveWarden$Enclave" "loads" "I" ∈ WS := ws_tbl (show _ ∈ tables_1 from List.mem_append_left _ (show _ ∈ tables_1_1 from List.mem_of_getElem? (i := 75) (by decide +kernel))) (by decide +kernel)
theorem w_80 : Cond.fieldLink "EnclaveWarden" 7 "EnclaveWarden" "secret" "I" ∈ WS := ws_tbl (show _ ∈ tables_1 from List.mem_append_left _ (show _ ∈ tables_1_1 from List.mem_of_getElem? (i := 80) (by decide +kernel))) (by decide +kernel)
theorem w_81 : Cond.fieldLink "EnclaveWarden" 13 "EnclaveWarden" "memory" "[I" ∈ WS := ws_tbl (show _ ∈ tables_1 from List.mem_append_left _ (show _ ∈ tables_1_1 from List.mem_of_getElem? (i := 81) (by decide +kernel))) (by decide +kernel)
theorem w_82 : Cond.fieldLink "EnclaveWarden" 17 "EnclaveWarden" "kinds" "[I" ∈ WS := ws_tbl (show _ ∈ tables_1 from List.mem_append_left _ (show _ ∈ tables_1_1 from List.mem_of_getElem? (i := 82) (by decide +kernel))) (by decide +kernel)
theorem w_83 : Cond.fieldLink "EnclaveWarden" 22 "EnclaveWarden" "enclaves" "[LEnclaveWarden$Enclave;" ∈ WS := ws_tbl (show _ ∈ tables_1 from List.mem_append_left _ (show _ ∈ tables_1_1 from List.mem_of_getElem? (i := 83) (by decide +kernel))) (by decide +kernel)
theorem w_84 : Cond.fieldLink "EnclaveWarden" 30 "EnclaveWarden" "system" "LEnclaveWarden$Core;" ∈ WS := ws_tbl (show _ ∈ tables_1 from List.mem_append_left _ (show _ ∈ tables_1_1 from List.mem_of_getElem? (i := 84) (by decide +kernel))) (by decide +kernel)
theorem w_85 : Cond.fieldLink "EnclaveWarden" 34 "EnclaveWarden" "exits" "[I" ∈ WS := ws_tbl (show _ ∈ tables_1 from List.mem_append_left _ (show _ ∈ tables_1_1 from List.mem_of_getElem? (i := 85) (by decide +kernel))) (by decide +kernel)
theorem w_86 : Cond.fieldLink "EnclaveWarden" 37 "EnclaveWarden" "halted" "Z" ∈ WS := ws_tbl (show _ ∈ tables_1 from List.mem_append_left _ (show _ ∈ tables_1_1 from List.mem_of_getElem? (i := 86) (by decide +kernel))) (by decide +kernel)
theorem w_87 : Cond.fieldLink "EnclaveWarden" 41 "EnclaveWarden" "running" "I" ∈ WS := ws_tbl (show _ ∈ tables_1 from List.mem_append_left _ (show _ ∈ tables_1_1 from List.mem_of_getElem? (i := 87) (by decide +kernel))) (by decide +kernel)
theorem w_88 : Cond.fieldLink "EnclaveWarden" 44 "EnclaveWarden" "period" "I" ∈ WS := ws_tbl (show _ ∈ tables_1 from List.mem_append_left _ (show _ ∈ tables_1_1 from List.mem_of_getElem? (i := 88) (by decide +kernel))) (by decide +kernel)
theorem w_89 : Cond.fieldLink "EnclaveWarden" 47 "EnclaveWarden" "tick" "I" ∈ WS := ws_tbl (show _ ∈ tables_1 from List.mem_append_left _ (show _ ∈ tables_1_1 from List.mem_of_getElem? (i := 89) (by decide +kernel))) (by decide +kernel)
theorem w_90 : Cond.laysFinal "EnclaveWarden" "EnclaveWarden" "secret" "I" ∈ WS := ws_tbl (show _ ∈ tables_1 from List.mem_append_left _ (show _ ∈ tables_1_1 from List.mem_of_getElem? (i := 90) (by decide +kernel))) (by decide +kernel)
theorem w_92 : Cond.laysFinal "EnclaveWarden" "EnclaveWarden" "memory" "[I" ∈ WS := ws_tbl (show _ ∈ tables_1 from List.mem_append_left _ (show _ ∈ tables_1_1 from List.mem_of_getElem? (i := 92) (by decide +kernel))) (by decide +kernel)
theorem w_94 : Cond.laysFinal "EnclaveWarden" "EnclaveWarden" "kinds" "[I" ∈ WS := ws_tbl (show _ ∈ tables_1 from List.mem_append_left _ (show _ ∈ tables_1_1 from List.mem_of_getElem? (i := 94) (by decide +kernel))) (by decide +kernel)
theorem w_96 : Cond.laysFinal "EnclaveWarden" "EnclaveWarden" "enclaves" "[LEnclaveWarden$Enclave;" ∈ WS := ws_tbl (show _ ∈ tables_1 from List.mem_append_left _ (show _ ∈ tables_1_1 from List.mem_of_getElem? (i := 96) (by decide +kernel))) (by decide +kernel)
theorem w_98 : Cond.laysFinal "EnclaveWarden" "EnclaveWarden" "system" "LEnclaveWarden$Core;" ∈ WS := ws_tbl (show _ ∈ tables_1 from List.mem_append_left _ (show _ ∈ tables_1_1 from List.mem_of_getElem? (i := 98) (by decide +kernel))) (by decide +kernel)
theorem w_100 : Cond.laysFinal "EnclaveWarden" "EnclaveWarden" "exits" "[I" ∈ WS := ws_tbl (show _ ∈ tables_1 from List.mem_append_left _ (show _ ∈ tables_1_1 from List.mem_of_getElem? (i := 100) (by decide +kernel))) (by decide +kernel)
theorem w_102 : Cond.lays "EnclaveWarden" "EnclaveWarden" "halted" "Z" ∈ WS := ws_tbl (show _ ∈ tables_1 from List.mem_append_left _ (show _ ∈ tables_1_1 from List.mem_of_getElem? (i := 102) (by decide +kernel))) (by decide +kernel)
theorem w_104 : Cond.lays "EnclaveWarden" "EnclaveWarden" "running" "I" ∈ WS := ws_tbl (show _ ∈ tables_1 from List.mem_append_left _ (show _ ∈ tables_1_1 from List.mem_of_getElem? (i := 104) (by decide +kernel))) (by decide +kernel)
theorem w_106 : Cond.lays "EnclaveWarden" "EnclaveWarden" "period" "I" ∈ WS := ws_tbl (show _ ∈ tables_1 from List.mem_append_left _ (show _ ∈ tables_1_1 from List.mem_of_getElem? (i := 106) (by decide +kernel))) (by decide +kernel)
theorem w_108 : Cond.lays "EnclaveWarden" "EnclaveWarden" "tick" "I" ∈ WS := ws_tbl (show _ ∈ tables_1 from List.mem_append_left _ (show _ ∈ tables_1_1 from List.mem_of_getElem? (i := 108) (by decide +kernel))) (by decide +kernel)
theorem w_115 : Cond.methodLink "EnclaveWarden" 50 ⟨"EnclaveWarden", "systemMayUse", "(I)Z"⟩ ∈ WS := ws_tbl (show _ ∈ tables_1 from List.mem_append_left _ (show _ ∈ tables_1_1 from List.mem_of_getElem? (i := 115) (by decide +kernel))) (by decide +kernel)
theorem w_117 : Cond.instanceMethod ⟨"EnclaveWarden", "systemMayUse", "(I)Z"⟩ ∈ WS := ws_tbl (show _ ∈ tables_1 from List.mem_append_left _ (show _ ∈ tables_1_1 from List.mem_of_getElem? (i := 117) (by decide +kernel))) (by decide +kernel)
theorem w_118 : Cond.code ⟨"EnclaveWarden", "systemMayUse", "(I)Z"⟩ prog_1_method_28_code 3 (Option.some .boolean) ∈ WS := ws_tbl (show _ ∈ tables_1 from List.mem_append_left _ (show _ ∈ tables_1_1 from List.mem_of_getElem? (i := 118) rfl)) (by decide +kernel)
theorem w_119 : Cond.methodLink "EnclaveWarden" 54 ⟨"EnclaveWarden", "isAddress", "(I)Z"⟩ ∈ WS := ws_tbl (show _ ∈ tables_1 from List.mem_append_left _ (show _ ∈ tables_1_1 from List.mem_of_getElem? (i := 119) (by decide +kernel))) (by decide +kernel)
theorem w_120 : Cond.static ⟨"EnclaveWarden", "isAddress", "(I)Z"⟩ ∈ WS := ws_tbl (show _ ∈ tables_1 from List.mem_append_left _ (show _ ∈ tables_1_1 from List.mem_of_getElem? (i := 120) (by decide +kernel))) (by decide +kernel)
theorem w_121 : Cond.code ⟨"EnclaveWarden", "isAddress", "(I)Z"⟩ prog_1_method_22_code 1 (Option.some .boolean) ∈ WS := ws_tbl (show _ ∈ tables_1 from List.mem_append_left _ (show _ ∈ tables_1_1 from List.mem_of_getElem? (i := 121) rfl)) (by decide +kernel)
theorem w_136 : Cond.instanceMethod ⟨"EnclaveWarden$Core", "put", "(II)V"⟩ ∈ WS := ws_tbl (show _ ∈ tables_1 from List.mem_append_left _ (show _ ∈ tables_1_1 from List.mem_of_getElem? (i := 136) (by decide +kernel))) (by decide +kernel)
theorem w_137 : Cond.code ⟨"EnclaveWarden$Core", "put", "(II)V"⟩ prog_2_method_3_code 3 none ∈ WS := ws_tbl (show _ ∈ tables_1 from List.mem_append_left _ (show _ ∈ tables_1_1 from List.mem_of_getElem? (i := 137) rfl)) (by decide +kernel)
theorem w_144 : Cond.instanceMethod ⟨"EnclaveWarden$Core", "get", "(I)I"⟩ ∈ WS := ws_tbl (show _ ∈ tables_1 from List.mem_append_left _ (show _ ∈ tables_1_1 from List.mem_of_getElem? (i := 144) (by decide +kernel))) (by decide +kernel)
theorem w_145 : Cond.code ⟨"EnclaveWarden$Core", "get", "(I)I"⟩ prog_2_method_2_code 2 (Option.some .int) ∈ WS := ws_tbl (show _ ∈ tables_1 from List.mem_append_left _ (show _ ∈ tables_1_1 from List.mem_of_getElem? (i := 145) rfl)) (by decide +kernel)
theorem w_162 : Cond.methodLink "EnclaveWarden" 68 ⟨"EnclaveWarden", "systemCall", "(IIII)I"⟩ ∈ WS := ws_tbl (show _ ∈ tables_1 from List.mem_append_left _ (show _ ∈ tables_1_1 from List.mem_of_getElem? (i := 162) (by decide +kernel))) (by decide +kernel)
theorem w_164 : Cond.instanceMethod ⟨"EnclaveWarden", "systemCall", "(IIII)I"⟩ ∈ WS := ws_tbl (show _ ∈ tables_1 from List.mem_append_left _ (show _ ∈ tables_1_1 from List.mem_of_getElem? (i := 164) (by decide +kernel))) (by decide +kernel)
theorem w_165 : Cond.code ⟨"EnclaveWarden", "systemCall", "(IIII)I"⟩ prog_1_method_39_code 5 (Option.some .int) ∈ WS := ws_tbl (show _ ∈ tables_1 from List.mem_append_left _ (show _ ∈ tables_1_1 from List.mem_of_getElem? (i := 165) rfl)) (by decide +kernel)
theorem w_166 : Cond.methodLink "EnclaveWarden" 141 ⟨"EnclaveWarden", "create", "(II)I"⟩ ∈ WS := ws_tbl (show _ ∈ tables_1 from List.mem_append_left _ (show _ ∈ tables_1_1 from List.mem_of_getElem? (i := 166) (by decide +kernel))) (by decide +kernel)
theorem w_168 : Cond.instanceMethod ⟨"EnclaveWarden", "create", "(II)I"⟩ ∈ WS := ws_tbl (show _ ∈ tables_1 from List.mem_append_left _ (show _ ∈ tables_1_1 from List.mem_of_getElem? (i := 168) (by decide +kernel))) (by decide +kernel)
theorem w_169 : Cond.code ⟨"EnclaveWarden", "create", "(II)I"⟩ prog_1_method_40_code 5 (Option.some .int) ∈ WS := ws_tbl (show _ ∈ tables_1 from List.mem_append_left _ (show _ ∈ tables_1_1 from List.mem_of_getElem? (i := 169) rfl)) (by decide +kernel)
theorem w_170 : Cond.methodLink "EnclaveWarden" 75 ⟨"EnclaveWarden", "isRegion", "(I)Z"⟩ ∈ WS := ws_tbl (show _ ∈ tables_1 from List.mem_append_left _ (show _ ∈ tables_1_1 from List.mem_of_getElem? (i := 170) (by decide +kernel))) (by decide +kernel)
theorem w_171 : Cond.static ⟨"EnclaveWarden", "isRegion", "(I)Z"⟩ ∈ WS := ws_tbl (show _ ∈ tables_1 from List.mem_append_left _ (show _ ∈ tables_1_1 from List.mem_of_getElem? (i := 171) (by decide +kernel))) (by decide +kernel)
theorem w_172 : Cond.code ⟨"EnclaveWarden", "isRegion", "(I)Z"⟩ prog_1_method_23_code 1 (Option.some .boolean) ∈ WS := ws_tbl (show _ ∈ tables_1 from List.mem_append_left _ (show _ ∈ tables_1_1 from List.mem_of_getElem? (i := 172) rfl)) (by decide +kernel)
theorem w_173 : Cond.methodLink "EnclaveWarden" 175 ⟨"EnclaveWarden", "allFree", "(II)Z"⟩ ∈ WS := ws_tbl (show _ ∈ tables_1 from List.mem_append_left _ (show _ ∈ tables_1_1 from List.mem_of_getElem? (i := 173) (by decide +kernel))) (by decide +kernel)
theorem w_175 : Cond.instanceMethod ⟨"EnclaveWarden", "allFree", "(II)Z"⟩ ∈ WS := ws_tbl (show _ ∈ tables_1 from List.mem_append_left _ (show _ ∈ tables_1_1 from List.mem_of_getElem? (i := 175) (by decide +kernel))) (by decide +kernel)
theorem w_176 : Cond.code ⟨"EnclaveWarden", "allFree", "(II)Z"⟩ prog_1_method_41_code 4 (Option.some .boolean) ∈ WS := ws_tbl (show _ ∈ tables_1 from List.mem_append_left _ (show _ ∈ tables_1_1 from List.mem_of_getElem? (i := 176) rfl)) (by decide +kernel)
theorem w_177 : Cond.methodLink "EnclaveWarden" 178 ⟨"EnclaveWarden", "leastAbsent", "()I"⟩ ∈ WS := ws_tbl (show _ ∈ tables_1 from List.mem_append_left _ (show _ ∈ tables_1_1 from List.mem_of_getElem? (i := 177) (by decide +kernel))) (by decide +kernel)
theorem w_179 : Cond.instanceMethod ⟨"EnclaveWarden", "leastAbsent", "()I"⟩ ∈ WS := ws_tbl (show _ ∈ tables_1 from List.mem_append_left _ (show _ ∈ tables_1_1 from List.mem_of_getElem? (i := 179) (by decide +kernel))) (by decide +kernel)
theorem w_180 : Cond.code ⟨"EnclaveWarden", "leastAbsent", "()I"⟩ prog_1_method_42_code 2 (Option.some .int) ∈ WS := ws_tbl (show _ ∈ tables_1 from List.mem_append_left _ (show _ ∈ tables_1_1 from List.mem_of_getElem? (i := 180) rfl)) (by decide +kernel)
theorem w_184 : Cond.instanceMethod ⟨"EnclaveWarden$Enclave", "add", "(I)V"⟩ ∈ WS := ws_tbl (show _ ∈ tables_1 from List.mem_append_left _ (show _ ∈ tables_1_1 from List.mem_of_getElem? (i := 184) (by decide +kernel))) (by decide +kernel)
theorem w_185 : Cond.code ⟨"EnclaveWarden$Enclave", "add", "(I)V"⟩ prog_3_method_3_code 2 none ∈ WS := ws_tbl (show _ ∈ tables_1 from List.mem_append_left _ (show _ ∈ tables_1_1 from List.mem_of_getElem? (i := 185) rfl)) (by decide +kernel)
theorem w_187 : Cond.static ⟨"EnclaveWarden", "mix", "(II)I"⟩ ∈ WS := ws_tbl (show _ ∈ tables_1 from List.mem_append_left _ (show _ ∈ tables_1_1 from List.mem_of_getElem? (i := 187) (by decide +kernel))) (by decide +kernel)
theorem w_188 : Cond.code ⟨"EnclaveWarden", "mix", "(II)I"⟩ prog_1_method_26_code 3 (Option.some .int) ∈ WS := ws_tbl (show _ ∈ tables_1 from List.mem_append_left _ (show _ ∈ tables_1_1 from List.mem_of_getElem? (i := 188) rfl)) (by decide +kernel)
theorem w_189 : Cond.constant "EnclaveWarden" 104 (1390208809) ∈ WS := ws_tbl (show _ ∈ tables_1 from List.mem_append_left _ (show _ ∈ tables_1_1 from List.mem_of_getElem? (i := 189) (by decide +kernel))) (by decide +kernel)
theorem w_190 : Cond.methodLink "EnclaveWarden" 144 ⟨"EnclaveWarden", "load", "(III)I"⟩ ∈ WS := ws_tbl (show _ ∈ tables_1 from List.mem_append_left _ (show _ ∈ tables_1_1 from List.mem_of_getElem? (i := 190) (by decide +kernel))) (by decide +kernel)
theorem w_192 : Cond.instanceMethod ⟨"EnclaveWarden", "load", "(III)I"⟩ ∈ WS := ws_tbl (show _ ∈ tables_1 from List.mem_append_left _ (show _ ∈ tables_1_1 from List.mem_of_getElem? (i := 192) (by decide +kernel))) (by decide +kernel)
theorem w_193 : Cond.code ⟨"EnclaveWarden", "load", "(III)I"⟩ prog_1_method_43_code 7 (Option.some .int) ∈ WS := ws_tbl (show _ ∈ tables_1 from List.mem_append_left _ (show _ ∈ tables_1_1 from List.mem_of_getElem? (i := 193) rfl)) (by decide +kernel)
theorem w_194 : Cond.methodLink "EnclaveWarden" 78 ⟨"EnclaveWarden", "isEnclave", "(I)Z"⟩ ∈ WS := ws_tbl (show _ ∈ tables_1 from List.mem_append_left _ (show _ ∈ tables_1_1 from List.mem_of_getElem? (i := 194) (by decide +kernel))) (by decide +kernel)
theorem w_195 : Cond.static ⟨"EnclaveWarden", "isEnclave", "(I)Z"⟩ ∈ WS := ws_tbl (show _ ∈ tables_1 from List.mem_append_left _ (show _ ∈ tables_1_1 from List.mem_of_getElem? (i := 195) (by decide +kernel))) (by decide +kernel)
theorem w_196 : Cond.code ⟨"EnclaveWarden", "isEnclave", "(I)Z"⟩ prog_1_method_24_code 1 (Option.some .boolean) ∈ WS := ws_tbl (show _ ∈ tables_1 from List.mem_append_left _ (show _ ∈ tables_1_1 from List.mem_of_getElem? (i := 196) rfl)) (by decide +kernel)
theorem w_197 : Cond.methodLink "EnclaveWarden" 148 ⟨"EnclaveWarden", "addThread", "(II)I"⟩ ∈ WS := ws_tbl (show _ ∈ tables_1 from List.mem_append_left _ (show _ ∈ tables_1_1 from List.mem_of_getElem? (i := 197) (by decide +kernel))) (by decide +kernel)
theorem w_199 : Cond.instanceMethod ⟨"EnclaveWarden", "addThread", "(II)I"⟩ ∈ WS := ws_tbl (show _ ∈ tables_1 from List.mem_append_left _ (show _ ∈ tables_1_1 from List.mem_of_getElem? (i := 199) (by decide +kernel))) (by decide +kernel)
theorem w_200 : Cond.code ⟨"EnclaveWarden", "addThread", "(II)I"⟩ prog_1_method_44_code 5 (Option.some .int) ∈ WS := ws_tbl (show _ ∈ tables_1 from List.mem_append_left _ (show _ ∈ tables_1_1 from List.mem_of_getElem? (i := 200) rfl)) (by decide +kernel)
theorem w_203 : Cond.instanceMethod ⟨"EnclaveWarden$Enclave", "threadCount", "()I"⟩ ∈ WS := ws_tbl (show _ ∈ tables_1 from List.mem_append_left _ (show _ ∈ tables_1_1 from List.mem_of_getElem? (i := 203) (by decide +kernel))) (by decide +kernel)
theorem w_204 : Cond.code ⟨"EnclaveWarden$Enclave", "threadCount", "()I"⟩ prog_3_method_4_code 3 (Option.some .int) ∈ WS := ws_tbl (show _ ∈ tables_1 from List.mem_append_left _ (show _ ∈ tables_1_1 from List.mem_of_getElem? (i := 204) rfl)) (by decide +kernel)
theorem w_205 : Cond.methodLink "EnclaveWarden" 151 ⟨"EnclaveWarden", "seal", "(I)I"⟩ ∈ WS := ws_tbl (show _ ∈ tables_1 from List.mem_append_left _ (show _ ∈ tables_1_1 from List.mem_of_getElem? (i := 205) (by decide +kernel))) (by decide +kernel)
theorem w_207 : Cond.instanceMethod ⟨"EnclaveWarden", "seal", "(I)I"⟩ ∈ WS := ws_tbl (show _ ∈ tables_1 from List.mem_append_left _ (show _ ∈ tables_1_1 from List.mem_of_getElem? (i := 207) (by decide +kernel))) (by decide +kernel)
theorem w_208 : Cond.code ⟨"EnclaveWarden", "seal", "(I)I"⟩ prog_1_method_45_code 3 (Option.some .int) ∈ WS := ws_tbl (show _ ∈ tables_1 from List.mem_append_left _ (show _ ∈ tables_1_1 from List.mem_of_getElem? (i := 208) rfl)) (by decide +kernel)
theorem w_209 : Cond.methodLink "EnclaveWarden" 154 ⟨"EnclaveWarden", "share", "(II)I"⟩ ∈ WS := ws_tbl (show _ ∈ tables_1 from List.mem_append_left _ (show _ ∈ tables_1_1 from List.mem_of_getElem? (i := 209) (by decide +kernel))) (by decide +kernel)
theorem w_211 : Cond.instanceMethod ⟨"EnclaveWarden", "share", "(II)I"⟩ ∈ WS := ws_tbl (show _ ∈ tables_1 from List.mem_append_left _ (show _ ∈ tables_1_1 from List.mem_of_getElem? (i := 211) (by decide +kernel))) (by decide +kernel)
theorem w_212 : Cond.code ⟨"EnclaveWarden", "share", "(II)I"⟩ prog_1_method_46_code 3 (Option.some .int) ∈ WS := ws_tbl (show _ ∈ tables_1 from List.mem_append_left _ (show _ ∈ tables_1_1 from List.mem_of_getElem? (i := 212) rfl)) (by decide +kernel)
theorem w_213 : Cond.methodLink "EnclaveWarden" 197 ⟨"EnclaveWarden", "sharedWith", "(I)I"⟩ ∈ WS := ws_tbl (show _ ∈ tables_1 from List.mem_append_left _ (show _ ∈ tables_1_1 from List.mem_of_getElem? (i := 213) (by decide +kernel))) (by decide +kernel)
theorem w_215 : Cond.instanceMethod ⟨"EnclaveWarden", "sharedWith", "(I)I"⟩ ∈ WS := ws_tbl (show _ ∈ tables_1 from List.mem_append_left _ (show _ ∈ tables_1_1 from List.mem_of_getElem? (i := 215) (by decide +kernel))) (by decide +kernel)
theorem w_216 : Cond.code ⟨"EnclaveWarden", "sharedWith", "(I)I"⟩ prog_1_method_47_code 4 (Option.some .int) ∈ WS := ws_tbl (show _ ∈ tables_1 from List.mem_append_left _ (show _ ∈ tables_1_1 from List.mem_of_getElem? (i := 216) rfl)) (by decide +kernel)
theorem w_217 : Cond.methodLink "EnclaveWarden" 157 ⟨"EnclaveWarden", "enter", "(III)I"⟩ ∈ WS := ws_tbl (show _ ∈ tables_1 from List.mem_append_left _ (show _ ∈ tables_1_1 from List.mem_of_getElem? (i := 217) (by decide +kernel))) (by decide +kernel)
theorem w_219 : Cond.instanceMethod ⟨"EnclaveWarden", "enter", "(III)I"⟩ ∈ WS := ws_tbl (show _ ∈ tables_1 from List.mem_append_left _ (show _ ∈ tables_1_1 from List.mem_of_getElem? (i := 219) (by decide +kernel))) (by decide +kernel)
theorem w_220 : Cond.code ⟨"EnclaveWarden", "enter", "(III)I"⟩ prog_1_method_48_code 6 (Option.some .int) ∈ WS := ws_tbl (show _ ∈ tables_1 from List.mem_append_left _ (show _ ∈ tables_1_1 from List.mem_of_getElem? (i := 220) rfl)) (by decide +kernel)
theorem w_221 : Cond.methodLink "EnclaveWarden" 200 ⟨"EnclaveWarden", "refusalToStart", "(III)I"⟩ ∈ WS := ws_tbl (show _ ∈ tables_1 from List.mem_append_left _ (show _ ∈ tables_1_1 from List.mem_of_getElem? (i := 221) (by decide +kernel))) (by decide +kernel)
theorem w_223 : Cond.instanceMethod ⟨"EnclaveWarden", "refusalToStart", "(III)I"⟩ ∈ WS := ws_tbl (show _ ∈ tables_1 from List.mem_append_left _ (show _ ∈ tables_1_1 from List.mem_of_getElem? (i := 223) (by decide +kernel))) (by decide +kernel)
theorem w_224 : Cond.code ⟨"EnclaveWarden", "refusalToStart", "(III)I"⟩ prog_1_method_50_code 5 (Option.some .int) ∈ WS := ws_tbl (show _ ∈ tables_1 from List.mem_append_left _ (show _ ∈ tables_1_1 from List.mem_of_getElem? (i := 224) rfl)) (by decide +kernel)
theorem w_225 : Cond.methodLink "EnclaveWarden" 84 ⟨"EnclaveWarden", "isThread", "(I)Z"⟩ ∈ WS := ws_tbl (show _ ∈ tables_1 from List.mem_append_left _ (show _ ∈ tables_1_1 from List.mem_of_getElem? (i := 225) (by decide +kernel))) (by decide +kernel)
theorem w_226 : Cond.static ⟨"EnclaveWarden", "isThread", "(I)Z"⟩ ∈ WS := ws_tbl (show _ ∈ tables_1 from List.mem_append_left _ (show _ ∈ tables_1_1 from List.mem_of_getElem? (i := 226) (by decide +kernel))) (by decide +kernel)
theorem w_227 : Cond.code ⟨"EnclaveWarden", "isThread", "(I)Z"⟩ prog_1_method_25_code 1 (Option.some .boolean) ∈ WS := ws_tbl (show _ ∈ tables_1 from List.mem_append_left _ (show _ ∈ tables_1_1 from List.mem_of_getElem? (i := 227) rfl)) (by decide +kernel)
theorem w_230 : Cond.instanceMethod ⟨"EnclaveWarden$Core", "start", "(II)V"⟩ ∈ WS := ws_tbl (show _ ∈ tables_1 from List.mem_append_left _ (show _ ∈ tables_1_1 from List.mem_of_getElem? (i := 230) (by decide +kernel))) (by decide +kernel)
theorem w_231 : Cond.code ⟨"EnclaveWarden$Core", "start", "(II)V"⟩ prog_2_method_4_code 4 none ∈ WS := ws_tbl (show _ ∈ tables_1 from List.mem_append_left _ (show _ ∈ tables_1_1 from List.mem_of_getElem? (i := 231) rfl)) (by decide +kernel)
theorem w_232 : Cond.methodLink "EnclaveWarden$Core" 19 ⟨"EnclaveWarden$Core", "put", "(II)V"⟩ ∈ WS := ws_tbl (show _ ∈ tables_1 from List.mem_append_left _ (show _ ∈ tables_1_1 from List.mem_of_getElem? (i := 232) (by decide +kernel))) (by decide +kernel)
theorem w_233 : Cond.methodLink "EnclaveWarden" 206 ⟨"EnclaveWarden", "handOver", "(II)V"⟩ ∈ WS := ws_tbl (show _ ∈ tables_1 from List.mem_append_left _ (show _ ∈ tables_1_1 from List.mem_of_getElem? (i := 233) (by decide +kernel))) (by decide +kernel)
theorem w_235 : Cond.instanceMethod ⟨"EnclaveWarden", "handOver", "(II)V"⟩ ∈ WS := ws_tbl (show _ ∈ tables_1 from List.mem_append_left _ (show _ ∈ tables_1_1 from List.mem_of_getElem? (i := 235) (by decide +kernel))) (by decide +kernel)
theorem w_236 : Cond.code ⟨"EnclaveWarden", "handOver", "(II)V"⟩ prog_1_method_51_code 3 none ∈ WS := ws_tbl (show _ ∈ tables_1 from List.mem_append_left _ (show _ ∈ tables_1_1 from List.mem_of_getElem? (i := 236) rfl)) (by decide +kernel)
theorem w_237 : Cond.methodLink "EnclaveWarden" 160 ⟨"EnclaveWarden", "resume", "(II)I"⟩ ∈ WS := ws_tbl (show _ ∈ tables_1 from List.mem_append_left _ (show _ ∈ tables_1_1 from List.mem_of_getElem? (i := 237) (by decide +kernel))) (by decide +kernel)
theorem w_239 : Cond.instanceMethod ⟨"EnclaveWarden", "resume", "(II)I"⟩ ∈ WS := ws_tbl (show _ ∈ tables_1 from List.mem_append_left _ (show _ ∈ tables_1_1 from List.mem_of_getElem? (i := 239) (by decide +kernel))) (by decide +kernel)
theorem w_240 : Cond.code ⟨"EnclaveWarden", "resume", "(II)I"⟩ prog_1_method_49_code 4 (Option.some .int) ∈ WS := ws_tbl (show _ ∈ tables_1 from List.mem_append_right _ (List.mem_append_left _ (show _ ∈ tables_1_2 from List.mem_of_getElem? (i := 0) rfl))) (by decide +kernel)
theorem w_241 : Cond.methodLink "EnclaveWarden" 163 ⟨"EnclaveWarden", "stop", "(I)I"⟩ ∈ WS := ws_tbl (show _ ∈ tables_1 from List.mem_append_right _ (List.mem_append_left _ (show _ ∈ tables_1_2 from List.mem_of_getElem? (i := 1) (by decide +kernel)))) (by decide +kernel)
theorem w_243 : Cond.instanceMethod ⟨"EnclaveWarden", "stop", "(I)I"⟩ ∈ WS := ws_tbl (show _ ∈ tables_1 from List.mem_append_right _ (List.mem_append_left _ (show _ ∈ tables_1_2 from List.mem_of_getElem? (i := 3) (by decide +kernel)))) (by decide +kernel)
theorem w_244 : Cond.code ⟨"EnclaveWarden", "stop", "(I)I"⟩ prog_1_method_52_code 2 (Option.some .int) ∈ WS := ws_tbl (show _ ∈ tables_1 from List.mem_append_right _ (List.mem_append_left _ (show _ ∈ tables_1_2 from List.mem_of_getElem? (i := 4) rfl))) (by decide +kernel)
theorem w_245 : Cond.methodLink "EnclaveWarden" 166 ⟨"EnclaveWarden", "destroy", "(I)I"⟩ ∈ WS := ws_tbl (show _ ∈ tables_1 from List.mem_append_right _ (List.mem_append_left _ (show _ ∈ tables_1_2 from List.mem_of_getElem? (i := 5) (by decide +kernel)))) (by decide +kernel)
theorem w_247 : Cond.instanceMethod ⟨"EnclaveWarden", "destroy", "(I)I"⟩ ∈ WS := ws_tbl (show _ ∈ tables_1 from List.mem_append_right _ (List.mem_append_left _ (show _ ∈ tables_1_2 from List.mem_of_getElem? (i := 7) (by decide +kernel)))) (by decide +kernel)
theorem w_248 : Cond.code ⟨"EnclaveWarden", "destroy", "(I)I"⟩ prog_1_method_53_code 4 (Option.some .int) ∈ WS := ws_tbl (show _ ∈ tables_1 from List.mem_append_right _ (List.mem_append_left _ (show _ ∈ tables_1_2 from List.mem_of_getElem? (i := 8) rfl))) (by decide +kernel)
theorem w_249 : Cond.methodLink "EnclaveWarden" 209 ⟨"EnclaveWarden", "free", "(I)V"⟩ ∈ WS := ws_tbl (show _ ∈ tables_1 from List.mem_append_right _ (List.mem_append_left _ (show _ ∈ tables_1_2 from List.mem_of_getElem? (i := 9) (by decide +kernel)))) (by decide +kernel)
theorem w_251 : Cond.instanceMethod ⟨"EnclaveWarden", "free", "(I)V"⟩ ∈ WS := ws_tbl (show _ ∈ tables_1 from List.mem_append_right _ (List.mem_append_left _ (show _ ∈ tables_1_2 from List.mem_of_getElem? (i := 11) (by decide +kernel)))) (by decide +kernel)
theorem w_252 : Cond.code ⟨"EnclaveWarden", "free", "(I)V"⟩ prog_1_method_56_code 3 none ∈ WS := ws_tbl (show _ ∈ tables_1 from List.mem_append_right _ (List.mem_append_left _ (show _ ∈ tables_1_2 from List.mem_of_getElem? (i := 12) rfl))) (by decide +kernel)
theorem w_253 : Cond.methodLink "EnclaveWarden" 169 ⟨"EnclaveWarden", "claim", "(I)I"⟩ ∈ WS := ws_tbl (show _ ∈ tables_1 from List.mem_append_right _ (List.mem_append_left _ (show _ ∈ tables_1_2 from List.mem_of_getElem? (i := 13) (by decide +kernel)))) (by decide +kernel)
theorem w_255 : Cond.instanceMethod ⟨"EnclaveWarden", "claim", "(I)I"⟩ ∈ WS := ws_tbl (show _ ∈ tables_1 from List.mem_append_right _ (List.mem_append_left _ (show _ ∈ tables_1_2 from List.mem_of_getElem? (i := 15) (by decide +kernel)))) (by decide +kernel)
theorem w_256 : Cond.code ⟨"EnclaveWarden", "claim", "(I)I"⟩ prog_1_method_54_code 2 (Option.some .int) ∈ WS := ws_tbl (show _ ∈ tables_1 from List.mem_append_right _ (List.mem_append_left _ (show _ ∈ tables_1_2 from List.mem_of_getElem? (i := 16) rfl))) (by decide +kernel)
theorem w_257 : Cond.methodLink "EnclaveWarden" 172 ⟨"EnclaveWarden", "giveUp", "(I)I"⟩ ∈ WS := ws_tbl (show _ ∈ tables_1 from List.mem_append_right _ (List.mem_append_left _ (show _ ∈ tables_1_2 from List.mem_of_getElem? (i := 17) (by decide +kernel)))) (by decide +kernel)
theorem w_259 : Cond.instanceMethod ⟨"EnclaveWarden", "giveUp", "(I)I"⟩ ∈ WS := ws_tbl (show _ ∈ tables_1 from List.mem_append_right _ (List.mem_append_left _ (show _ ∈ tables_1_2 from List.mem_of_getElem? (i := 19) (by decide +kernel)))) (by decide +kernel)
theorem w_260 : Cond.code ⟨"EnclaveWarden", "giveUp", "(I)I"⟩ prog_1_method_55_code 2 (Option.some .int) ∈ WS := ws_tbl (show _ ∈ tables_1 from List.mem_append_right _ (List.mem_append_left _ (show _ ∈ tables_1_2 from List.mem_of_getElem? (i := 20) rfl))) (by decide +kernel)
theorem w_265 : Cond.methodLink "EnclaveWarden" 72 ⟨"EnclaveWarden", "step", "()V"⟩ ∈ WS := ws_tbl (show _ ∈ tables_1 from List.mem_append_right _ (List.mem_append_left _ (show _ ∈ tables_1_2 from List.mem_of_getElem? (i := 25) (by decide +kernel)))) (by decide +kernel)
theorem w_267 : Cond.instanceMethod ⟨"EnclaveWarden", "step", "()V"⟩ ∈ WS := ws_tbl (show _ ∈ tables_1 from List.mem_append_right _ (List.mem_append_left _ (show _ ∈ tables_1_2 from List.mem_of_getElem? (i := 27) (by decide +kernel)))) (by decide +kernel)
theorem w_268 : Cond.code ⟨"EnclaveWarden", "step", "()V"⟩ prog_1_method_32_code 3 none ∈ WS := ws_tbl (show _ ∈ tables_1 from List.mem_append_right _ (List.mem_append_left _ (show _ ∈ tables_1_2 from List.mem_of_getElem? (i := 28) rfl))) (by decide +kernel)
theorem w_269 : Cond.methodLink "EnclaveWarden" 112 ⟨"EnclaveWarden", "leave", "(III)V"⟩ ∈ WS := ws_tbl (show _ ∈ tables_1 from List.mem_append_right _ (List.mem_append_left _ (show _ ∈ tables_1_2 from List.mem_of_getElem? (i := 29) (by decide +kernel)))) (by decide +kernel)
theorem w_271 : Cond.instanceMethod ⟨"EnclaveWarden", "leave", "(III)V"⟩ ∈ WS := ws_tbl (show _ ∈ tables_1 from List.mem_append_right _ (List.mem_append_left _ (show _ ∈ tables_1_2 from List.mem_of_getElem? (i := 31) (by decide +kernel)))) (by decide +kernel)
theorem w_272 : Cond.code ⟨"EnclaveWarden", "leave", "(III)V"⟩ prog_1_method_37_code 4 none ∈ WS := ws_tbl (show _ ∈ tables_1 from List.mem_append_right _ (List.mem_append_left _ (show _ ∈ tables_1_2 from List.mem_of_getElem? (i := 32) rfl))) (by decide +kernel)
theorem w_273 : Cond.methodLink "EnclaveWarden" 116 ⟨"EnclaveWarden", "runningThread", "()LEnclaveWarden$EnclaveThread;"⟩ ∈ WS := ws_tbl (show _ ∈ tables_1 from List.mem_append_right _ (List.mem_append_left _ (show _ ∈ tables_1_2 from List.mem_of_getElem? (i := 33) (by decide +kernel)))) (by decide +kernel)
theorem w_275 : Cond.instanceMethod ⟨"EnclaveWarden", "runningThread", "()LEnclaveWarden$EnclaveThread;"⟩ ∈ WS := ws_tbl (show _ ∈ tables_1 from List.mem_append_right _ (List.mem_append_left _ (show _ ∈ tables_1_2 from List.mem_of_getElem? (i := 35) (by decide +kernel)))) (by decide +kernel)
theorem w_276 : Cond.code ⟨"EnclaveWarden", "runningThread", "()LEnclaveWarden$EnclaveThread;"⟩ prog_1_method_31_code 1 (Option.some (.object "EnclaveWarden$EnclaveThread")) ∈ WS := ws_tbl (show _ ∈ tables_1 from List.mem_append_right _ (List.mem_append_left _ (show _ ∈ tables_1_2 from List.mem_of_getElem? (i := 36) rfl))) (by decide +kernel)
theorem w_277 : Cond.methodLink "EnclaveWarden" 120 ⟨"EnclaveWarden", "runnerMayUse", "(I)Z"⟩ ∈ WS := ws_tbl (show _ ∈ tables_1 from List.mem_append_right _ (List.mem_append_left _ (show _ ∈ tables_1_2 from List.mem_of_getElem? (i := 37) (by decide +kernel)))) (by decide +kernel)
theorem w_279 : Cond.instanceMethod ⟨"EnclaveWarden", "runnerMayUse", "(I)Z"⟩ ∈ WS := ws_tbl (show _ ∈ tables_1 from List.mem_append_right _ (List.mem_append_left _ (show _ ∈ tables_1_2 from List.mem_of_getElem? (i := 39) (by decide +kernel)))) (by decide +kernel)
theorem w_280 : Cond.code ⟨"EnclaveWarden", "runnerMayUse", "(I)Z"⟩ prog_1_method_30_code 2 (Option.some .boolean) ∈ WS := ws_tbl (show _ ∈ tables_1 from List.mem_append_right _ (List.mem_append_left _ (show _ ∈ tables_1_2 from List.mem_of_getElem? (i := 40) rfl))) (by decide +kernel)
theorem w_281 : Cond.methodLink "EnclaveWarden" 108 ⟨"EnclaveWarden", "enclaveMayUse", "(II)Z"⟩ ∈ WS := ws_tbl (show _ ∈ tables_1 from List.mem_append_right _ (List.mem_append_left _ (show _ ∈ tables_1_2 from List.mem_of_getElem? (i := 41) (by decide +kernel)))) (by decide +kernel)
theorem w_283 : Cond.instanceMethod ⟨"EnclaveWarden", "enclaveMayUse", "(II)Z"⟩ ∈ WS := ws_tbl (show _ ∈ tables_1 from List.mem_append_right _ (List.mem_append_left _ (show _ ∈ tables_1_2 from List.mem_of_getElem? (i := 43) (by decide +kernel)))) (by decide +kernel)
theorem w_284 : Cond.code ⟨"EnclaveWarden", "enclaveMayUse", "(II)Z"⟩ prog_1_method_29_code 4 (Option.some .boolean) ∈ WS := ws_tbl (show _ ∈ tables_1 from List.mem_append_right _ (List.mem_append_left _ (show _ ∈ tables_1_2 from List.mem_of_getElem? (i := 44) rfl))) (by decide +kernel)
theorem w_285 : Cond.methodLink "EnclaveWarden" 123 ⟨"EnclaveWarden", "fault", "(I)V"⟩ ∈ WS := ws_tbl (show _ ∈ tables_1 from List.mem_append_right _ (List.mem_append_left _ (show _ ∈ tables_1_2 from List.mem_of_getElem? (i := 45) (by decide +kernel)))) (by decide +kernel)
theorem w_287 : Cond.instanceMethod ⟨"EnclaveWarden", "fault", "(I)V"⟩ ∈ WS := ws_tbl (show _ ∈ tables_1 from List.mem_append_right _ (List.mem_append_left _ (show _ ∈ tables_1_2 from List.mem_of_getElem? (i := 47) (by decide +kernel)))) (by decide +kernel)
theorem w_288 : Cond.code ⟨"EnclaveWarden", "fault", "(I)V"⟩ prog_1_method_36_code 2 none ∈ WS := ws_tbl (show _ ∈ tables_1 from List.mem_append_right _ (List.mem_append_left _ (show _ ∈ tables_1_2 from List.mem_of_getElem? (i := 48) rfl))) (by decide +kernel)
theorem w_289 : Cond.methodLink "EnclaveWarden" 127 ⟨"EnclaveWarden", "obeyCall", "(LEnclaveWarden$Core;I)V"⟩ ∈ WS := ws_tbl (show _ ∈ tables_1 from List.mem_append_right _ (List.mem_append_left _ (show _ ∈ tables_1_2 from List.mem_of_getElem? (i := 49) (by decide +kernel)))) (by decide +kernel)
theorem w_291 : Cond.instanceMethod ⟨"EnclaveWarden", "obeyCall", "(LEnclaveWarden$Core;I)V"⟩ ∈ WS := ws_tbl (show _ ∈ tables_1 from List.mem_append_right _ (List.mem_append_left _ (show _ ∈ tables_1_2 from List.mem_of_getElem? (i := 51) (by decide +kernel)))) (by decide +kernel)
theorem w_292 : Cond.code ⟨"EnclaveWarden", "obeyCall", "(LEnclaveWarden$Core;I)V"⟩ prog_1_method_35_code 8 none ∈ WS := ws_tbl (show _ ∈ tables_1 from List.mem_append_right _ (List.mem_append_left _ (show _ ∈ tables_1_2 from List.mem_of_getElem? (i := 52) rfl))) (by decide +kernel)
theorem w_293 : Cond.methodLink "EnclaveWarden" 138 ⟨"EnclaveWarden", "enclaveCall", "(IIII)I"⟩ ∈ WS := ws_tbl (show _ ∈ tables_1 from List.mem_append_right _ (List.mem_append_left _ (show _ ∈ tables_1_2 from List.mem_of_getElem? (i := 53) (by decide +kernel)))) (by decide +kernel)
theorem w_295 : Cond.instanceMethod ⟨"EnclaveWarden", "enclaveCall", "(IIII)I"⟩ ∈ WS := ws_tbl (show _ ∈ tables_1 from List.mem_append_right _ (List.mem_append_left _ (show _ ∈ tables_1_2 from List.mem_of_getElem? (i := 55) (by decide +kernel)))) (by decide +kernel)
theorem w_296 : Cond.code ⟨"EnclaveWarden", "enclaveCall", "(IIII)I"⟩ prog_1_method_38_code 6 (Option.some .int) ∈ WS := ws_tbl (show _ ∈ tables_1 from List.mem_append_right _ (List.mem_append_left _ (show _ ∈ tables_1_2 from List.mem_of_getElem? (i := 56) rfl))) (by decide +kernel)
theorem w_297 : Cond.methodLink "EnclaveWarden" 100 ⟨"EnclaveWarden", "macOf", "(II)I"⟩ ∈ WS := ws_tbl (show _ ∈ tables_1 from List.mem_append_right _ (List.mem_append_left _ (show _ ∈ tables_1_2 from List.mem_of_getElem? (i := 57) (by decide +kernel)))) (by decide +kernel)
theorem w_299 : Cond.instanceMethod ⟨"EnclaveWarden", "macOf", "(II)I"⟩ ∈ WS := ws_tbl (show _ ∈ tables_1 from List.mem_append_right _ (List.mem_append_left _ (show _ ∈ tables_1_2 from List.mem_of_getElem? (i := 59) (by decide +kernel)))) (by decide +kernel)
theorem w_300 : Cond.code ⟨"EnclaveWarden", "macOf", "(II)I"⟩ prog_1_method_27_code 3 (Option.some .int) ∈ WS := ws_tbl (show _ ∈ tables_1 from List.mem_append_right _ (List.mem_append_left _ (show _ ∈ tables_1_2 from List.mem_of_getElem? (i := 60) rfl))) (by decide +kernel)
theorem w_301 : Cond.methodLink "EnclaveWarden" 105 ⟨"EnclaveWarden", "mix", "(II)I"⟩ ∈ WS := ws_tbl (show _ ∈ tables_1 from List.mem_append_right _ (List.mem_append_left _ (show _ ∈ tables_1_2 from List.mem_of_getElem? (i := 61) (by decide +kernel)))) (by decide +kernel)
theorem w_302 : Cond.methodLink "EnclaveWarden" 131 ⟨"EnclaveWarden", "obey", "(LEnclaveWarden$Core;I)V"⟩ ∈ WS := ws_tbl (show _ ∈ tables_1 from List.mem_append_right _ (List.mem_append_left _ (show _ ∈ tables_1_2 from List.mem_of_getElem? (i := 62) (by decide +kernel)))) (by decide +kernel)
theorem w_304 : Cond.instanceMethod ⟨"EnclaveWarden", "obey", "(LEnclaveWarden$Core;I)V"⟩ ∈ WS := ws_tbl (show _ ∈ tables_1 from List.mem_append_right _ (List.mem_append_left _ (show _ ∈ tables_1_2 from List.mem_of_getElem? (i := 64) (by decide +kernel)))) (by decide +kernel)
theorem w_305 : Cond.code ⟨"EnclaveWarden", "obey", "(LEnclaveWarden$Core;I)V"⟩ prog_1_method_33_code 8 none ∈ WS := ws_tbl (show _ ∈ tables_1 from List.mem_append_right _ (List.mem_append_left _ (show _ ∈ tables_1_2 from List.mem_of_getElem? (i := 65) rfl))) (by decide +kernel)
theorem w_306 : Cond.methodLink "EnclaveWarden" 134 ⟨"EnclaveWarden", "branch", "(LEnclaveWarden$Core;ZI)V"⟩ ∈ WS := ws_tbl (show _ ∈ tables_1 from List.mem_append_right _ (List.mem_append_left _ (show _ ∈ tables_1_2 from List.mem_of_getElem? (i := 66) (by decide +kernel)))) (by decide +kernel)
theorem w_307 : Cond.static ⟨"EnclaveWarden", "branch", "(LEnclaveWarden$Core;ZI)V"⟩ ∈ WS := ws_tbl (show _ ∈ tables_1 from List.mem_append_right _ (List.mem_append_left _ (show _ ∈ tables_1_2 from List.mem_of_getElem? (i := 67) (by decide +kernel)))) (by decide +kernel)
theorem w_308 : Cond.code ⟨"EnclaveWarden", "branch", "(LEnclaveWarden$Core;ZI)V"⟩ prog_1_method_34_code 3 none ∈ WS := ws_tbl (show _ ∈ tables_1 from List.mem_append_right _ (List.mem_append_left _ (show _ ∈ tables_1_2 from List.mem_of_getElem? (i := 68) rfl))) (by decide +kernel)
theorem w_358 : Cond.fieldLink "EnclaveWardenModel" 54 "EnclaveWardenModel" "secret" "I" ∈ WS := ws_tbl (show _ ∈ tables_1 from List.mem_append_right _ (List.mem_append_left _ (show _ ∈ tables_1_2 from List.mem_of_getElem? (i := 118) (by decide +kernel)))) (by decide +kernel)
theorem w_359 : Cond.fieldLink "EnclaveWardenModel" 7 "EnclaveWardenModel" "memory" "[I" ∈ WS := ws_tbl (show _ ∈ tables_1 from List.mem_append_right _ (List.mem_append_left _ (show _ ∈ tables_1_2 from List.mem_of_getElem? (i := 119) (by decide +kernel)))) (by decide +kernel)
theorem w_360 : Cond.fieldLink "EnclaveWardenModel" 13 "EnclaveWardenModel" "own" "[Z" ∈ WS := ws_tbl (show _ ∈ tables_1 from List.mem_append_right _ (List.mem_append_left _ (show _ ∈ tables_1_2 from List.mem_of_getElem? (i := 120) (by decide +kernel)))) (by decide +kernel)
theorem w_361 : Cond.fieldLink "EnclaveWardenModel" 17 "EnclaveWardenModel" "partner" "[I" ∈ WS := ws_tbl (show _ ∈ tables_1 from List.mem_append_right _ (List.mem_append_left _ (show _ ∈ tables_1_2 from List.mem_of_getElem? (i := 121) (by decide +kernel)))) (by decide +kernel)
theorem w_362 : Cond.fieldLink "EnclaveWardenModel" 20 "EnclaveWardenModel" "stateOf" "[I" ∈ WS := ws_tbl (show _ ∈ tables_1 from List.mem_append_right _ (List.mem_append_left _ (show _ ∈ tables_1_2 from List.mem_of_getElem? (i := 122) (by decide +kernel)))) (by decide +kernel)
theorem w_363 : Cond.fieldLink "EnclaveWardenModel" 23 "EnclaveWardenModel" "from" "[I" ∈ WS := ws_tbl (show _ ∈ tables_1 from List.mem_append_right _ (List.mem_append_left _ (show _ ∈ tables_1_2 from List.mem_of_getElem? (i := 123) (by decide +kernel)))) (by decide +kernel)
theorem w_364 : Cond.fieldLink "EnclaveWardenModel" 26 "EnclaveWardenModel" "size" "[I" ∈ WS := ws_tbl (show _ ∈ tables_1 from List.mem_append_right _ (List.mem_append_left _ (show _ ∈ tables_1_2 from List.mem_of_getElem? (i := 124) (by decide +kernel)))) (by decide +kernel)
theorem w_365 : Cond.fieldLink "EnclaveWardenModel" 29 "EnclaveWardenModel" "loads" "[I" ∈ WS := ws_tbl (show _ ∈ tables_1 from List.mem_append_right _ (List.mem_append_left _ (show _ ∈ tables_1_2 from List.mem_of_getElem? (i := 125) (by decide +kernel)))) (by decide +kernel)
theorem w_366 : Cond.fieldLink "EnclaveWardenModel" 32 "EnclaveWardenModel" "added" "[I" ∈ WS := ws_tbl (show _ ∈ tables_1 from List.mem_append_right _ (List.mem_append_left _ (show _ ∈ tables_1_2 from List.mem_of_getElem? (i := 126) (by decide +kernel)))) (by decide +kernel)
theorem w_367 : Cond.fieldLink "EnclaveWardenModel" 35 "EnclaveWardenModel" "count" "[I" ∈ WS := ws_tbl (show _ ∈ tables_1 from List.mem_append_right _ (List.mem_append_left _ (show _ ∈ tables_1_2 from List.mem_of_getElem? (i := 127) (by decide +kernel)))) (by decide +kernel)
theorem w_368 : Cond.fieldLink "EnclaveWardenModel" 38 "EnclaveWardenModel" "phase" "[I" ∈ WS := ws_tbl (show _ ∈ tables_1 from List.mem_append_right _ (List.mem_append_left _ (show _ ∈ tables_1_2 from List.mem_of_getElem? (i := 128) (by decide +kernel)))) (by decide +kernel)
theorem w_369 : Cond.fieldLink "EnclaveWardenModel" 41 "EnclaveWardenModel" "entry" "[I" ∈ WS := ws_tbl (show _ ∈ tables_1 from List.mem_append_right _ (List.mem_append_left _ (show _ ∈ tables_1_2 from List.mem_of_getElem? (i := 129) (by decide +kernel)))) (by decide +kernel)
theorem w_370 : Cond.fieldLink "EnclaveWardenModel" 44 "EnclaveWardenModel" "reg" "[I" ∈ WS := ws_tbl (show _ ∈ tables_1 from List.mem_append_right _ (List.mem_append_left _ (show _ ∈ tables_1_2 from List.mem_of_getElem? (i := 130) (by decide +kernel)))) (by decide +kernel)
theorem w_371 : Cond.fieldLink "EnclaveWardenModel" 47 "EnclaveWardenModel" "place" "[I" ∈ WS := ws_tbl (show _ ∈ tables_1 from List.mem_append_right _ (List.mem_append_left _ (show _ ∈ tables_1_2 from List.mem_of_getElem? (i := 131) (by decide +kernel)))) (by decide +kernel)
theorem w_372 : Cond.fieldLink "EnclaveWardenModel" 50 "EnclaveWardenModel" "who" "I" ∈ WS := ws_tbl (show _ ∈ tables_1 from List.mem_append_right _ (List.mem_append_left _ (show _ ∈ tables_1_2 from List.mem_of_getElem? (i := 132) (by decide +kernel)))) (by decide +kernel)
theorem w_373 : Cond.fieldLink "EnclaveWardenModel" 131 "EnclaveWardenModel" "stopped" "Z" ∈ WS := ws_tbl (show _ ∈ tables_1 from List.mem_append_right _ (List.mem_append_left _ (show _ ∈ tables_1_2 from List.mem_of_getElem? (i := 133) (by decide +kernel)))) (by decide +kernel)
theorem w_374 : Cond.fieldLink "EnclaveWardenModel" 138 "EnclaveWardenModel" "rhythm" "I" ∈ WS := ws_tbl (show _ ∈ tables_1 from List.mem_append_right _ (List.mem_append_left _ (show _ ∈ tables_1_2 from List.mem_of_getElem? (i := 134) (by decide +kernel)))) (by decide +kernel)
theorem w_375 : Cond.fieldLink "EnclaveWardenModel" 125 "EnclaveWardenModel" "ticks" "I" ∈ WS := ws_tbl (show _ ∈ tables_1 from List.mem_append_right _ (List.mem_append_left _ (show _ ∈ tables_1_2 from List.mem_of_getElem? (i := 135) (by decide +kernel)))) (by decide +kernel)
theorem w_376 : Cond.fieldLink "EnclaveWardenModel" 113 "EnclaveWardenModel" "exits" "I" ∈ WS := ws_tbl (show _ ∈ tables_1 from List.mem_append_right _ (List.mem_append_left _ (show _ ∈ tables_1_2 from List.mem_of_getElem? (i := 136) (by decide +kernel)))) (by decide +kernel)
theorem w_377 : Cond.fieldLink "EnclaveWardenModel" 116 "EnclaveWardenModel" "exitEnclave" "I" ∈ WS := ws_tbl (show _ ∈ tables_1 from List.mem_append_right _ (List.mem_append_left _ (show _ ∈ tables_1_2 from List.mem_of_getElem? (i := 137) (by decide +kernel)))) (by decide +kernel)
theorem w_378 : Cond.fieldLink "EnclaveWardenModel" 119 "EnclaveWardenModel" "exitKind" "I" ∈ WS := ws_tbl (show _ ∈ tables_1 from List.mem_append_right _ (List.mem_append_left _ (show _ ∈ tables_1_2 from List.mem_of_getElem? (i := 138) (by decide +kernel)))) (by decide +kernel)
theorem w_379 : Cond.fieldLink "EnclaveWardenModel" 122 "EnclaveWardenModel" "exitValue" "I" ∈ WS := ws_tbl (show _ ∈ tables_1 from List.mem_append_right _ (List.mem_append_left _ (show _ ∈ tables_1_2 from List.mem_of_getElem? (i := 139) (by decide +kernel)))) (by decide +kernel)
theorem w_380 : Cond.fieldLink "EnclaveWardenModel" 128 "EnclaveWardenModel" "exitTick" "I" ∈ WS := ws_tbl (show _ ∈ tables_1 from List.mem_append_right _ (List.mem_append_left _ (show _ ∈ tables_1_2 from List.mem_of_getElem? (i := 140) (by decide +kernel)))) (by decide +kernel)
theorem w_381 : Cond.lays "EnclaveWardenModel" "EnclaveWardenModel" "secret" "I" ∈ WS := ws_tbl (show _ ∈ tables_1 from List.mem_append_right _ (List.mem_append_left _ (show _ ∈ tables_1_2 from List.mem_of_getElem? (i := 141) (by decide +kernel)))) (by decide +kernel)
theorem w_383 : Cond.lays "EnclaveWardenModel" "EnclaveWardenModel" "memory" "[I" ∈ WS := ws_tbl (show _ ∈ tables_1 from List.mem_append_right _ (List.mem_append_left _ (show _ ∈ tables_1_2 from List.mem_of_getElem? (i := 143) (by decide +kernel)))) (by decide +kernel)
theorem w_385 : Cond.lays "EnclaveWardenModel" "EnclaveWardenModel" "own" "[Z" ∈ WS := ws_tbl (show _ ∈ tables_1 from List.mem_append_right _ (List.mem_append_left _ (show _ ∈ tables_1_2 from List.mem_of_getElem? (i := 145) (by decide +kernel)))) (by decide +kernel)
theorem w_387 : Cond.lays "EnclaveWardenModel" "EnclaveWardenModel" "partner" "[I" ∈ WS := ws_tbl (show _ ∈ tables_1 from List.mem_append_right _ (List.mem_append_left _ (show _ ∈ tables_1_2 from List.mem_of_getElem? (i := 147) (by decide +kernel)))) (by decide +kernel)
theorem w_389 : Cond.lays "EnclaveWardenModel" "EnclaveWardenModel" "stateOf" "[I" ∈ WS := ws_tbl (show _ ∈ tables_1 from List.mem_append_right _ (List.mem_append_left _ (show _ ∈ tables_1_2 from List.mem_of_getElem? (i := 149) (by decide +kernel)))) (by decide +kernel)
theorem w_391 : Cond.lays "EnclaveWardenModel" "EnclaveWardenModel" "from" "[I" ∈ WS := ws_tbl (show _ ∈ tables_1 from List.mem_append_right _ (List.mem_append_left _ (show _ ∈ tables_1_2 from List.mem_of_getElem? (i := 151) (by decide +kernel)))) (by decide +kernel)
theorem w_393 : Cond.lays "EnclaveWardenModel" "EnclaveWardenModel" "size" "[I" ∈ WS := ws_tbl (show _ ∈ tables_1 from List.mem_append_right _ (List.mem_append_left _ (show _ ∈ tables_1_2 from List.mem_of_getElem? (i := 153) (by decide +kernel)))) (by decide +kernel)
theorem w_395 : Cond.lays "EnclaveWardenModel" "EnclaveWardenModel" "loads" "[I" ∈ WS := ws_tbl (show _ ∈ tables_1 from List.mem_append_right _ (List.mem_append_left _ (show _ ∈ tables_1_2 from List.mem_of_getElem? (i := 155) (by decide +kernel)))) (by decide +kernel)
theorem w_397 : Cond.lays "EnclaveWardenModel" "EnclaveWardenModel" "added" "[I" ∈ WS := ws_tbl (show _ ∈ tables_1 from List.mem_append_right _ (List.mem_append_left _ (show _ ∈ tables_1_2 from List.mem_of_getElem? (i := 157) (by decide +kernel)))) (by decide +kernel)
theorem w_399 : Cond.lays "EnclaveWardenModel" "EnclaveWardenModel" "count" "[I" ∈ WS := ws_tbl (show _ ∈ tables_1 from List.mem_append_right _ (List.mem_append_left _ (show _ ∈ tables_1_2 from List.mem_of_getElem? (i := 159) (by decide +kernel)))) (by decide +kernel)
theorem w_401 : Cond.lays "EnclaveWardenModel" "EnclaveWardenModel" "phase" "[I" ∈ WS := ws_tbl (show _ ∈ tables_1 from List.mem_append_right _ (List.mem_append_left _ (show _ ∈ tables_1_2 from List.mem_of_getElem? (i := 161) (by decide +kernel)))) (by decide +kernel)
theorem w_403 : Cond.lays "EnclaveWardenModel" "EnclaveWardenModel" "entry" "[I" ∈ WS := ws_tbl (show _ ∈ tables_1 from List.mem_append_right _ (List.mem_append_left _ (show _ ∈ tables_1_2 from List.mem_of_getElem? (i := 163) (by decide +kernel)))) (by decide +kernel)
theorem w_405 : Cond.lays "EnclaveWardenModel" "EnclaveWardenModel" "reg" "[I" ∈ WS := ws_tbl (show _ ∈ tables_1 from List.mem_append_right _ (List.mem_append_left _ (show _ ∈ tables_1_2 from List.mem_of_getElem? (i := 165) (by decide +kernel)))) (by decide +kernel)
theorem w_407 : Cond.lays "EnclaveWardenModel" "EnclaveWardenModel" "place" "[I" ∈ WS := ws_tbl (show _ ∈ tables_1 from List.mem_append_right _ (List.mem_append_left _ (show _ ∈ tables_1_2 from List.mem_of_getElem? (i := 167) (by decide +kernel)))) (by decide +kernel)
theorem w_409 : Cond.lays "EnclaveWardenModel" "EnclaveWardenModel" "who" "I" ∈ WS := ws_tbl (show _ ∈ tables_1 from List.mem_append_right _ (List.mem_append_left _ (show _ ∈ tables_1_2 from List.mem_of_getElem? (i := 169) (by decide +kernel)))) (by decide +kernel)
theorem w_411 : Cond.lays "EnclaveWardenModel" "EnclaveWardenModel" "stopped" "Z" ∈ WS := ws_tbl (show _ ∈ tables_1 from List.mem_append_right _ (List.mem_append_left _ (show _ ∈ tables_1_2 from List.mem_of_getElem? (i := 171) (by decide +kernel)))) (by decide +kernel)
theorem w_413 : Cond.lays "EnclaveWardenModel" "EnclaveWardenModel" "rhythm" "I" ∈ WS := ws_tbl (show _ ∈ tables_1 from List.mem_append_right _ (List.mem_append_left _ (show _ ∈ tables_1_2 from List.mem_of_getElem? (i := 173) (by decide +kernel)))) (by decide +kernel)
theorem w_415 : Cond.lays "EnclaveWardenModel" "EnclaveWardenModel" "ticks" "I" ∈ WS := ws_tbl (show _ ∈ tables_1 from List.mem_append_right _ (List.mem_append_left _ (show _ ∈ tables_1_2 from List.mem_of_getElem? (i := 175) (by decide +kernel)))) (by decide +kernel)
theorem w_417 : Cond.lays "EnclaveWardenModel" "EnclaveWardenModel" "exits" "I" ∈ WS := ws_tbl (show _ ∈ tables_1 from List.mem_append_right _ (List.mem_append_left _ (show _ ∈ tables_1_2 from List.mem_of_getElem? (i := 177) (by decide +kernel)))) (by decide +kernel)
theorem w_419 : Cond.lays "EnclaveWardenModel" "EnclaveWardenModel" "exitEnclave" "I" ∈ WS := ws_tbl (show _ ∈ tables_1 from List.mem_append_right _ (List.mem_append_left _ (show _ ∈ tables_1_2 from List.mem_of_getElem? (i := 179) (by decide +kernel)))) (by decide +kernel)
theorem w_421 : Cond.lays "EnclaveWardenModel" "EnclaveWardenModel" "exitKind" "I" ∈ WS := ws_tbl (show _ ∈ tables_1 from List.mem_append_right _ (List.mem_append_left _ (show _ ∈ tables_1_2 from List.mem_of_getElem? (i := 181) (by decide +kernel)))) (by decide +kernel)
theorem w_423 : Cond.lays "EnclaveWardenModel" "EnclaveWardenModel" "exitValue" "I" ∈ WS := ws_tbl (show _ ∈ tables_1 from List.mem_append_right _ (List.mem_append_left _ (show _ ∈ tables_1_2 from List.mem_of_getElem? (i := 183) (by decide +kernel)))) (by decide +kernel)
theorem w_425 : Cond.lays "EnclaveWardenModel" "EnclaveWardenModel" "exitTick" "I" ∈ WS := ws_tbl (show _ ∈ tables_1 from List.mem_append_right _ (List.mem_append_left _ (show _ ∈ tables_1_2 from List.mem_of_getElem? (i := 185) (by decide +kernel)))) (by decide +kernel)
theorem w_433 : Cond.methodLink "EnclaveWardenModel" 141 ⟨"EnclaveWardenModel", "uses", "(II)Z"⟩ ∈ WS := ws_tbl (show _ ∈ tables_1 from List.mem_append_right _ (List.mem_append_left _ (show _ ∈ tables_1_2 from List.mem_of_getElem? (i := 193) (by decide +kernel)))) (by decide +kernel)
theorem w_435 : Cond.instanceMethod ⟨"EnclaveWardenModel", "uses", "(II)Z"⟩ ∈ WS := ws_tbl (show _ ∈ tables_1 from List.mem_append_right _ (List.mem_append_left _ (show _ ∈ tables_1_2 from List.mem_of_getElem? (i := 195) (by decide +kernel)))) (by decide +kernel)
theorem w_436 : Cond.code ⟨"EnclaveWardenModel", "uses", "(II)Z"⟩ prog_6_method_4_code 4 (Option.some .boolean) ∈ WS := ws_tbl (show _ ∈ tables_1 from List.mem_append_right _ (List.mem_append_left _ (show _ ∈ tables_1_2 from List.mem_of_getElem? (i := 196) rfl))) (by decide +kernel)
theorem w_437 : Cond.methodLink "EnclaveWardenModel" 57 ⟨"EnclaveWardenModel", "outside", "(II)Z"⟩ ∈ WS := ws_tbl (show _ ∈ tables_1 from List.mem_append_right _ (List.mem_append_left _ (show _ ∈ tables_1_2 from List.mem_of_getElem? (i := 197) (by decide +kernel)))) (by decide +kernel)
theorem w_438 : Cond.static ⟨"EnclaveWardenModel", "outside", "(II)Z"⟩ ∈ WS := ws_tbl (show _ ∈ tables_1 from List.mem_append_right _ (List.mem_append_left _ (show _ ∈ tables_1_2 from List.mem_of_getElem? (i := 198) (by decide +kernel)))) (by decide +kernel)
theorem w_439 : Cond.code ⟨"EnclaveWardenModel", "outside", "(II)Z"⟩ prog_6_method_2_code 2 (Option.some .boolean) ∈ WS := ws_tbl (show _ ∈ tables_1 from List.mem_append_right _ (List.mem_append_left _ (show _ ∈ tables_1_2 from List.mem_of_getElem? (i := 199) rfl))) (by decide +kernel)
theorem w_440 : Cond.methodLink "EnclaveWardenModel" 61 ⟨"EnclaveWardenModel", "kind", "(I)I"⟩ ∈ WS := ws_tbl (show _ ∈ tables_1 from List.mem_append_right _ (List.mem_append_left _ (show _ ∈ tables_1_2 from List.mem_of_getElem? (i := 200) (by decide +kernel)))) (by decide +kernel)
theorem w_442 : Cond.instanceMethod ⟨"EnclaveWardenModel", "kind", "(I)I"⟩ ∈ WS := ws_tbl (show _ ∈ tables_1 from List.mem_append_right _ (List.mem_append_left _ (show _ ∈ tables_1_2 from List.mem_of_getElem? (i := 202) (by decide +kernel)))) (by decide +kernel)
theorem w_443 : Cond.code ⟨"EnclaveWardenModel", "kind", "(I)I"⟩ prog_6_method_3_code 3 (Option.some .int) ∈ WS := ws_tbl (show _ ∈ tables_1 from List.mem_append_right _ (List.mem_append_left _ (show _ ∈ tables_1_2 from List.mem_of_getElem? (i := 203) rfl))) (by decide +kernel)
theorem w_476 : Cond.methodLink "EnclaveWardenModel" 157 ⟨"EnclaveWardenModel", "system", "(IIII)I"⟩ ∈ WS := ws_tbl (show _ ∈ tables_1 from List.mem_append_right _ (List.mem_append_left _ (show _ ∈ tables_1_2 from List.mem_of_getElem? (i := 236) (by decide +kernel)))) (by decide +kernel)
theorem w_478 : Cond.instanceMethod ⟨"EnclaveWardenModel", "system", "(IIII)I"⟩ ∈ WS := ws_tbl (show _ ∈ tables_1 from List.mem_append_right _ (List.mem_append_left _ (show _ ∈ tables_1_2 from List.mem_of_getElem? (i := 238) (by decide +kernel)))) (by decide +kernel)
theorem w_479 : Cond.code ⟨"EnclaveWardenModel", "system", "(IIII)I"⟩ prog_6_method_13_code 5 (Option.some .int) ∈ WS := ws_tbl (show _ ∈ tables_1 from List.mem_append_right _ (List.mem_append_left _ (show _ ∈ tables_1_2 from List.mem_of_getElem? (i := 239) rfl))) (by decide +kernel)
theorem w_480 : Cond.methodLink "EnclaveWardenModel" 70 ⟨"EnclaveWardenModel", "bad", "(IIII)Z"⟩ ∈ WS := ws_tbl (show _ ∈ tables_1 from List.mem_append_right _ (List.mem_append_right _ ((show _ ∈ tables_1_3 from List.mem_of_getElem? (i := 0) (by decide +kernel))))) (by decide +kernel)
theorem w_481 : Cond.static ⟨"EnclaveWardenModel", "bad", "(IIII)Z"⟩ ∈ WS := ws_tbl (show _ ∈ tables_1 from List.mem_append_right _ (List.mem_append_right _ ((show _ ∈ tables_1_3 from List.mem_of_getElem? (i := 1) (by decide +kernel))))) (by decide +kernel)
theorem w_482 : Cond.code ⟨"EnclaveWardenModel", "bad", "(IIII)Z"⟩ prog_6_method_9_code 4 (Option.some .boolean) ∈ WS := ws_tbl (show _ ∈ tables_1 from List.mem_append_right _ (List.mem_append_right _ ((show _ ∈ tables_1_3 from List.mem_of_getElem? (i := 2) rfl)))) (by decide +kernel)
theorem w_483 : Cond.methodLink "EnclaveWardenModel" 74 ⟨"EnclaveWardenModel", "wrongState", "(III)Z"⟩ ∈ WS := ws_tbl (show _ ∈ tables_1 from List.mem_append_right _ (List.mem_append_right _ ((show _ ∈ tables_1_3 from List.mem_of_getElem? (i := 3) (by decide +kernel))))) (by decide +kernel)
theorem w_485 : Cond.instanceMethod ⟨"EnclaveWardenModel", "wrongState", "(III)Z"⟩ ∈ WS := ws_tbl (show _ ∈ tables_1 from List.mem_append_right _ (List.mem_append_right _ ((show _ ∈ tables_1_3 from List.mem_of_getElem? (i := 5) (by decide +kernel))))) (by decide +kernel)
theorem w_486 : Cond.code ⟨"EnclaveWardenModel", "wrongState", "(III)Z"⟩ prog_6_method_10_code 4 (Option.some .boolean) ∈ WS := ws_tbl (show _ ∈ tables_1 from List.mem_append_right _ (List.mem_append_right _ ((show _ ∈ tables_1_3 from List.mem_of_getElem? (i := 6) rfl)))) (by decide +kernel)
theorem w_487 : Cond.methodLink "EnclaveWardenModel" 78 ⟨"EnclaveWardenModel", "taken", "(IIII)Z"⟩ ∈ WS := ws_tbl (show _ ∈ tables_1 from List.mem_append_right _ (List.mem_append_right _ ((show _ ∈ tables_1_3 from List.mem_of_getElem? (i := 7) (by decide +kernel))))) (by decide +kernel)
theorem w_489 : Cond.instanceMethod ⟨"EnclaveWardenModel", "taken", "(IIII)Z"⟩ ∈ WS := ws_tbl (show _ ∈ tables_1 from List.mem_append_right _ (List.mem_append_right _ ((show _ ∈ tables_1_3 from List.mem_of_getElem? (i := 9) (by decide +kernel))))) (by decide +kernel)
theorem w_490 : Cond.code ⟨"EnclaveWardenModel", "taken", "(IIII)Z"⟩ prog_6_method_11_code 6 (Option.some .boolean) ∈ WS := ws_tbl (show _ ∈ tables_1 from List.mem_append_right _ (List.mem_append_right _ ((show _ ∈ tables_1_3 from List.mem_of_getElem? (i := 10) rfl)))) (by decide +kernel)
theorem w_491 : Cond.methodLink "EnclaveWardenModel" 81 ⟨"EnclaveWardenModel", "full", "(II)Z"⟩ ∈ WS := ws_tbl (show _ ∈ tables_1 from List.mem_append_right _ (List.mem_append_right _ ((show _ ∈ tables_1_3 from List.mem_of_getElem? (i := 11) (by decide +kernel))))) (by decide +kernel)
theorem w_493 : Cond.instanceMethod ⟨"EnclaveWardenModel", "full", "(II)Z"⟩ ∈ WS := ws_tbl (show _ ∈ tables_1 from List.mem_append_right _ (List.mem_append_right _ ((show _ ∈ tables_1_3 from List.mem_of_getElem? (i := 13) (by decide +kernel))))) (by decide +kernel)
theorem w_494 : Cond.code ⟨"EnclaveWardenModel", "full", "(II)Z"⟩ prog_6_method_12_code 5 (Option.some .boolean) ∈ WS := ws_tbl (show _ ∈ tables_1 from List.mem_append_right _ (List.mem_append_right _ ((show _ ∈ tables_1_3 from List.mem_of_getElem? (i := 14) rfl)))) (by decide +kernel)
theorem w_495 : Cond.methodLink "EnclaveWardenModel" 84 ⟨"EnclaveWardenModel", "create", "(II)I"⟩ ∈ WS := ws_tbl (show _ ∈ tables_1 from List.mem_append_right _ (List.mem_append_right _ ((show _ ∈ tables_1_3 from List.mem_of_getElem? (i := 15) (by decide +kernel))))) (by decide +kernel)
theorem w_497 : Cond.instanceMethod ⟨"EnclaveWardenModel", "create", "(II)I"⟩ ∈ WS := ws_tbl (show _ ∈ tables_1 from List.mem_append_right _ (List.mem_append_right _ ((show _ ∈ tables_1_3 from List.mem_of_getElem? (i := 17) (by decide +kernel))))) (by decide +kernel)
theorem w_498 : Cond.code ⟨"EnclaveWardenModel", "create", "(II)I"⟩ prog_6_method_14_code 4 (Option.some .int) ∈ WS := ws_tbl (show _ ∈ tables_1 from List.mem_append_right _ (List.mem_append_right _ ((show _ ∈ tables_1_3 from List.mem_of_getElem? (i := 18) rfl)))) (by decide +kernel)
theorem w_499 : Cond.methodLink "EnclaveWardenModel" 98 ⟨"EnclaveWardenModel", "add", "(II)V"⟩ ∈ WS := ws_tbl (show _ ∈ tables_1 from List.mem_append_right _ (List.mem_append_right _ ((show _ ∈ tables_1_3 from List.mem_of_getElem? (i := 19) (by decide +kernel))))) (by decide +kernel)
theorem w_501 : Cond.instanceMethod ⟨"EnclaveWardenModel", "add", "(II)V"⟩ ∈ WS := ws_tbl (show _ ∈ tables_1 from List.mem_append_right _ (List.mem_append_right _ ((show _ ∈ tables_1_3 from List.mem_of_getElem? (i := 21) (by decide +kernel))))) (by decide +kernel)
theorem w_502 : Cond.code ⟨"EnclaveWardenModel", "add", "(II)V"⟩ prog_6_method_7_code 3 none ∈ WS := ws_tbl (show _ ∈ tables_1 from List.mem_append_right _ (List.mem_append_right _ ((show _ ∈ tables_1_3 from List.mem_of_getElem? (i := 22) rfl)))) (by decide +kernel)
theorem w_503 : Cond.methodLink "EnclaveWardenModel" 87 ⟨"EnclaveWardenModel", "thread", "(II)I"⟩ ∈ WS := ws_tbl (show _ ∈ tables_1 from List.mem_append_right _ (List.mem_append_right _ ((show _ ∈ tables_1_3 from List.mem_of_getElem? (i := 23) (by decide +kernel))))) (by decide +kernel)
theorem w_504 : Cond.instanceMethod ⟨"EnclaveWardenModel", "thread", "(II)I"⟩ ∈ WS := ws_tbl (show _ ∈ tables_1 from List.mem_append_right _ (List.mem_append_right _ ((show _ ∈ tables_1_3 from List.mem_of_getElem? (i := 24) (by decide +kernel))))) (by decide +kernel)
theorem w_505 : Cond.selects "EnclaveWardenModel" ⟨"EnclaveWardenModel", "thread", "(II)I"⟩ ⟨"EnclaveWardenModel", "thread", "(II)I"⟩ ∈ WS := ws_tbl (show _ ∈ tables_1 from List.mem_append_right _ (List.mem_append_right _ ((show _ ∈ tables_1_3 from List.mem_of_getElem? (i := 25) (by decide +kernel))))) (by decide +kernel)
theorem w_506 : Cond.code ⟨"EnclaveWardenModel", "thread", "(II)I"⟩ prog_6_method_41_code 3 (Option.some .int) ∈ WS := ws_tbl (show _ ∈ tables_1 from List.mem_append_right _ (List.mem_append_right _ ((show _ ∈ tables_1_3 from List.mem_of_getElem? (i := 26) rfl)))) (by decide +kernel)
theorem w_507 : Cond.methodLink "EnclaveWardenModel" 90 ⟨"EnclaveWardenModel", "append", "(III)I"⟩ ∈ WS := ws_tbl (show _ ∈ tables_1 from List.mem_append_right _ (List.mem_append_right _ ((show _ ∈ tables_1_3 from List.mem_of_getElem? (i := 27) (by decide +kernel))))) (by decide +kernel)
theorem w_509 : Cond.instanceMethod ⟨"EnclaveWardenModel", "append", "(III)I"⟩ ∈ WS := ws_tbl (show _ ∈ tables_1 from List.mem_append_right _ (List.mem_append_right _ ((show _ ∈ tables_1_3 from List.mem_of_getElem? (i := 29) (by decide +kernel))))) (by decide +kernel)
theorem w_510 : Cond.code ⟨"EnclaveWardenModel", "append", "(III)I"⟩ prog_6_method_15_code 4 (Option.some .int) ∈ WS := ws_tbl (show _ ∈ tables_1 from List.mem_append_right _ (List.mem_append_right _ ((show _ ∈ tables_1_3 from List.mem_of_getElem? (i := 30) rfl)))) (by decide +kernel)
theorem w_511 : Cond.methodLink "EnclaveWardenModel" 94 ⟨"EnclaveWardenModel", "perform", "(IIII)V"⟩ ∈ WS := ws_tbl (show _ ∈ tables_1 from List.mem_append_right _ (List.mem_append_right _ ((show _ ∈ tables_1_3 from List.mem_of_getElem? (i := 31) (by decide +kernel))))) (by decide +kernel)
theorem w_513 : Cond.instanceMethod ⟨"EnclaveWardenModel", "perform", "(IIII)V"⟩ ∈ WS := ws_tbl (show _ ∈ tables_1 from List.mem_append_right _ (List.mem_append_right _ ((show _ ∈ tables_1_3 from List.mem_of_getElem? (i := 33) (by decide +kernel))))) (by decide +kernel)
theorem w_514 : Cond.code ⟨"EnclaveWardenModel", "perform", "(IIII)V"⟩ prog_6_method_16_code 6 none ∈ WS := ws_tbl (show _ ∈ tables_1 from List.mem_append_right _ (List.mem_append_right _ ((show _ ∈ tables_1_3 from List.mem_of_getElem? (i := 34) rfl)))) (by decide +kernel)
theorem w_515 : Cond.methodLink "EnclaveWardenModel" 102 ⟨"EnclaveWardenModel", "load", "(III)V"⟩ ∈ WS := ws_tbl (show _ ∈ tables_1 from List.mem_append_right _ (List.mem_append_right _ ((show _ ∈ tables_1_3 from List.mem_of_getElem? (i := 35) (by decide +kernel))))) (by decide +kernel)
theorem w_517 : Cond.instanceMethod ⟨"EnclaveWardenModel", "load", "(III)V"⟩ ∈ WS := ws_tbl (show _ ∈ tables_1 from List.mem_append_right _ (List.mem_append_right _ ((show _ ∈ tables_1_3 from List.mem_of_getElem? (i := 37) (by decide +kernel))))) (by decide +kernel)
theorem w_518 : Cond.code ⟨"EnclaveWardenModel", "load", "(III)V"⟩ prog_6_method_17_code 5 none ∈ WS := ws_tbl (show _ ∈ tables_1 from List.mem_append_right _ (List.mem_append_right _ ((show _ ∈ tables_1_3 from List.mem_of_getElem? (i := 38) rfl)))) (by decide +kernel)
theorem w_519 : Cond.methodLink "EnclaveWardenModel" 106 ⟨"EnclaveWardenModel", "destroy", "(I)V"⟩ ∈ WS := ws_tbl (show _ ∈ tables_1 from List.mem_append_right _ (List.mem_append_right _ ((show _ ∈ tables_1_3 from List.mem_of_getElem? (i := 39) (by decide +kernel))))) (by decide +kernel)
theorem w_521 : Cond.instanceMethod ⟨"EnclaveWardenModel", "destroy", "(I)V"⟩ ∈ WS := ws_tbl (show _ ∈ tables_1 from List.mem_append_right _ (List.mem_append_right _ ((show _ ∈ tables_1_3 from List.mem_of_getElem? (i := 41) (by decide +kernel))))) (by decide +kernel)
theorem w_522 : Cond.code ⟨"EnclaveWardenModel", "destroy", "(I)V"⟩ prog_6_method_19_code 3 none ∈ WS := ws_tbl (show _ ∈ tables_1 from List.mem_append_right _ (List.mem_append_right _ ((show _ ∈ tables_1_3 from List.mem_of_getElem? (i := 42) rfl)))) (by decide +kernel)
theorem w_523 : Cond.methodLink "EnclaveWardenModel" 110 ⟨"EnclaveWardenModel", "wipe", "(I)V"⟩ ∈ WS := ws_tbl (show _ ∈ tables_1 from List.mem_append_right _ (List.mem_append_right _ ((show _ ∈ tables_1_3 from List.mem_of_getElem? (i := 43) (by decide +kernel))))) (by decide +kernel)
theorem w_525 : Cond.instanceMethod ⟨"EnclaveWardenModel", "wipe", "(I)V"⟩ ∈ WS := ws_tbl (show _ ∈ tables_1 from List.mem_append_right _ (List.mem_append_right _ ((show _ ∈ tables_1_3 from List.mem_of_getElem? (i := 45) (by decide +kernel))))) (by decide +kernel)
theorem w_526 : Cond.code ⟨"EnclaveWardenModel", "wipe", "(I)V"⟩ prog_6_method_18_code 3 none ∈ WS := ws_tbl (show _ ∈ tables_1 from List.mem_append_right _ (List.mem_append_right _ ((show _ ∈ tables_1_3 from List.mem_of_getElem? (i := 46) rfl)))) (by decide +kernel)
theorem w_531 : Cond.methodLink "EnclaveWardenModel" 167 ⟨"EnclaveWardenModel", "step", "()V"⟩ ∈ WS := ws_tbl (show _ ∈ tables_1 from List.mem_append_right _ (List.mem_append_right _ ((show _ ∈ tables_1_3 from List.mem_of_getElem? (i := 51) (by decide +kernel))))) (by decide +kernel)
theorem w_533 : Cond.instanceMethod ⟨"EnclaveWardenModel", "step", "()V"⟩ ∈ WS := ws_tbl (show _ ∈ tables_1 from List.mem_append_right _ (List.mem_append_right _ ((show _ ∈ tables_1_3 from List.mem_of_getElem? (i := 53) (by decide +kernel))))) (by decide +kernel)
theorem w_534 : Cond.code ⟨"EnclaveWardenModel", "step", "()V"⟩ prog_6_method_22_code 11 none ∈ WS := ws_tbl (show _ ∈ tables_1 from List.mem_append_right _ (List.mem_append_right _ ((show _ ∈ tables_1_3 from List.mem_of_getElem? (i := 54) rfl)))) (by decide +kernel)
theorem w_535 : Cond.methodLink "EnclaveWardenModel" 135 ⟨"EnclaveWardenModel", "leave", "(II)V"⟩ ∈ WS := ws_tbl (show _ ∈ tables_1 from List.mem_append_right _ (List.mem_append_right _ ((show _ ∈ tables_1_3 from List.mem_of_getElem? (i := 55) (by decide +kernel))))) (by decide +kernel)
theorem w_537 : Cond.instanceMethod ⟨"EnclaveWardenModel", "leave", "(II)V"⟩ ∈ WS := ws_tbl (show _ ∈ tables_1 from List.mem_append_right _ (List.mem_append_right _ ((show _ ∈ tables_1_3 from List.mem_of_getElem? (i := 57) (by decide +kernel))))) (by decide +kernel)
theorem w_538 : Cond.code ⟨"EnclaveWardenModel", "leave", "(II)V"⟩ prog_6_method_20_code 3 none ∈ WS := ws_tbl (show _ ∈ tables_1 from List.mem_append_right _ (List.mem_append_right _ ((show _ ∈ tables_1_3 from List.mem_of_getElem? (i := 58) rfl)))) (by decide +kernel)
theorem w_539 : Cond.methodLink "EnclaveWardenModel" 144 ⟨"EnclaveWardenModel", "fault", "(I)V"⟩ ∈ WS := ws_tbl (show _ ∈ tables_1 from List.mem_append_right _ (List.mem_append_right _ ((show _ ∈ tables_1_3 from List.mem_of_getElem? (i := 59) (by decide +kernel))))) (by decide +kernel)
theorem w_541 : Cond.instanceMethod ⟨"EnclaveWardenModel", "fault", "(I)V"⟩ ∈ WS := ws_tbl (show _ ∈ tables_1 from List.mem_append_right _ (List.mem_append_right _ ((show _ ∈ tables_1_3 from List.mem_of_getElem? (i := 61) (by decide +kernel))))) (by decide +kernel)
theorem w_542 : Cond.code ⟨"EnclaveWardenModel", "fault", "(I)V"⟩ prog_6_method_21_code 2 none ∈ WS := ws_tbl (show _ ∈ tables_1 from List.mem_append_right _ (List.mem_append_right _ ((show _ ∈ tables_1_3 from List.mem_of_getElem? (i := 62) rfl)))) (by decide +kernel)
theorem w_543 : Cond.methodLink "EnclaveWardenModel" 147 ⟨"EnclaveWardenModel", "put", "(II)V"⟩ ∈ WS := ws_tbl (show _ ∈ tables_1 from List.mem_append_right _ (List.mem_append_right _ ((show _ ∈ tables_1_3 from List.mem_of_getElem? (i := 63) (by decide +kernel))))) (by decide +kernel)
theorem w_545 : Cond.instanceMethod ⟨"EnclaveWardenModel", "put", "(II)V"⟩ ∈ WS := ws_tbl (show _ ∈ tables_1 from List.mem_append_right _ (List.mem_append_right _ ((show _ ∈ tables_1_3 from List.mem_of_getElem? (i := 65) (by decide +kernel))))) (by decide +kernel)
theorem w_546 : Cond.code ⟨"EnclaveWardenModel", "put", "(II)V"⟩ prog_6_method_23_code 3 none ∈ WS := ws_tbl (show _ ∈ tables_1 from List.mem_append_right _ (List.mem_append_right _ ((show _ ∈ tables_1_3 from List.mem_of_getElem? (i := 66) rfl)))) (by decide +kernel)
theorem w_547 : Cond.methodLink "EnclaveWardenModel" 150 ⟨"EnclaveWardenModel", "access", "(ZII)V"⟩ ∈ WS := ws_tbl (show _ ∈ tables_1 from List.mem_append_right _ (List.mem_append_right _ ((show _ ∈ tables_1_3 from List.mem_of_getElem? (i := 67) (by decide +kernel))))) (by decide +kernel)
theorem w_549 : Cond.instanceMethod ⟨"EnclaveWardenModel", "access", "(ZII)V"⟩ ∈ WS := ws_tbl (show _ ∈ tables_1 from List.mem_append_right _ (List.mem_append_right _ ((show _ ∈ tables_1_3 from List.mem_of_getElem? (i := 69) (by decide +kernel))))) (by decide +kernel)
theorem w_550 : Cond.code ⟨"EnclaveWardenModel", "access", "(ZII)V"⟩ prog_6_method_24_code 4 none ∈ WS := ws_tbl (show _ ∈ tables_1 from List.mem_append_right _ (List.mem_append_right _ ((show _ ∈ tables_1_3 from List.mem_of_getElem? (i := 70) rfl)))) (by decide +kernel)
theorem w_551 : Cond.methodLink "EnclaveWardenModel" 154 ⟨"EnclaveWardenModel", "ask", "(I)V"⟩ ∈ WS := ws_tbl (show _ ∈ tables_1 from List.mem_append_right _ (List.mem_append_right _ ((show _ ∈ tables_1_3 from List.mem_of_getElem? (i := 71) (by decide +kernel))))) (by decide +kernel)
theorem w_553 : Cond.instanceMethod ⟨"EnclaveWardenModel", "ask", "(I)V"⟩ ∈ WS := ws_tbl (show _ ∈ tables_1 from List.mem_append_right _ (List.mem_append_right _ ((show _ ∈ tables_1_3 from List.mem_of_getElem? (i := 73) (by decide +kernel))))) (by decide +kernel)
theorem w_554 : Cond.code ⟨"EnclaveWardenModel", "ask", "(I)V"⟩ prog_6_method_25_code 6 none ∈ WS := ws_tbl (show _ ∈ tables_1 from List.mem_append_right _ (List.mem_append_right _ ((show _ ∈ tables_1_3 from List.mem_of_getElem? (i := 74) rfl)))) (by decide +kernel)
theorem w_555 : Cond.methodLink "EnclaveWardenModel" 161 ⟨"EnclaveWardenModel", "measured", "(I)I"⟩ ∈ WS := ws_tbl (show _ ∈ tables_1 from List.mem_append_right _ (List.mem_append_right _ ((show _ ∈ tables_1_3 from List.mem_of_getElem? (i := 75) (by decide +kernel))))) (by decide +kernel)
theorem w_557 : Cond.instanceMethod ⟨"EnclaveWardenModel", "measured", "(I)I"⟩ ∈ WS := ws_tbl (show _ ∈ tables_1 from List.mem_append_right _ (List.mem_append_right _ ((show _ ∈ tables_1_3 from List.mem_of_getElem? (i := 77) (by decide +kernel))))) (by decide +kernel)
theorem w_558 : Cond.code ⟨"EnclaveWardenModel", "measured", "(I)I"⟩ prog_6_method_8_code 4 (Option.some .int) ∈ WS := ws_tbl (show _ ∈ tables_1 from List.mem_append_right _ (List.mem_append_right _ ((show _ ∈ tables_1_3 from List.mem_of_getElem? (i := 78) rfl)))) (by decide +kernel)
theorem w_559 : Cond.methodLink "EnclaveWardenModel" 66 ⟨"EnclaveWardenModel", "mix", "(II)I"⟩ ∈ WS := ws_tbl (show _ ∈ tables_1 from List.mem_append_right _ (List.mem_append_right _ ((show _ ∈ tables_1_3 from List.mem_of_getElem? (i := 79) (by decide +kernel))))) (by decide +kernel)
theorem w_560 : Cond.static ⟨"EnclaveWardenModel", "mix", "(II)I"⟩ ∈ WS := ws_tbl (show _ ∈ tables_1 from List.mem_append_right _ (List.mem_append_right _ ((show _ ∈ tables_1_3 from List.mem_of_getElem? (i := 80) (by decide +kernel))))) (by decide +kernel)
theorem w_561 : Cond.code ⟨"EnclaveWardenModel", "mix", "(II)I"⟩ prog_6_method_5_code 3 (Option.some .int) ∈ WS := ws_tbl (show _ ∈ tables_1 from List.mem_append_right _ (List.mem_append_right _ ((show _ ∈ tables_1_3 from List.mem_of_getElem? (i := 81) rfl)))) (by decide +kernel)
theorem w_562 : Cond.constant "EnclaveWardenModel" 65 (1390208809) ∈ WS := ws_tbl (show _ ∈ tables_1 from List.mem_append_right _ (List.mem_append_right _ ((show _ ∈ tables_1_3 from List.mem_of_getElem? (i := 82) (by decide +kernel))))) (by decide +kernel)
theorem w_563 : Cond.methodLink "EnclaveWardenModel" 164 ⟨"EnclaveWardenModel", "mac", "(II)I"⟩ ∈ WS := ws_tbl (show _ ∈ tables_1 from List.mem_append_right _ (List.mem_append_right _ ((show _ ∈ tables_1_3 from List.mem_of_getElem? (i := 83) (by decide +kernel))))) (by decide +kernel)
theorem w_565 : Cond.instanceMethod ⟨"EnclaveWardenModel", "mac", "(II)I"⟩ ∈ WS := ws_tbl (show _ ∈ tables_1 from List.mem_append_right _ (List.mem_append_right _ ((show _ ∈ tables_1_3 from List.mem_of_getElem? (i := 85) (by decide +kernel))))) (by decide +kernel)
theorem w_566 : Cond.code ⟨"EnclaveWardenModel", "mac", "(II)I"⟩ prog_6_method_6_code 4 (Option.some .int) ∈ WS := ws_tbl (show _ ∈ tables_1 from List.mem_append_right _ (List.mem_append_right _ ((show _ ∈ tables_1_3 from List.mem_of_getElem? (i := 86) rfl)))) (by decide +kernel)
theorem ws_W_systemMayUse : Cond.selects "EnclaveWarden" ⟨"EnclaveWarden", "systemMayUse", "(I)Z"⟩ ⟨"EnclaveWarden", "systemMayUse", "(I)Z"⟩ ∈ WS := ws_sel (List.mem_of_getElem? (i := 1) (by decide +kernel)) (by decide +kernel)
theorem ws_C_put : Cond.selects "EnclaveWarden$Core" ⟨"EnclaveWarden$Core", "put", "(II)V"⟩ ⟨"EnclaveWarden$Core", "put", "(II)V"⟩ ∈ WS := ws_sel (List.mem_of_getElem? (i := 2) (by decide +kernel)) (by decide +kernel)
theorem ws_C_get : Cond.selects "EnclaveWarden$Core" ⟨"EnclaveWarden$Core", "get", "(I)I"⟩ ⟨"EnclaveWarden$Core", "get", "(I)I"⟩ ∈ WS := ws_sel (List.mem_of_getElem? (i := 3) (by decide +kernel)) (by decide +kernel)
theorem ws_W_systemCall : Cond.selects "EnclaveWarden" ⟨"EnclaveWarden", "systemCall", "(IIII)I"⟩ ⟨"EnclaveWarden", "systemCall", "(IIII)I"⟩ ∈ WS := ws_sel (List.mem_of_getElem? (i := 4) (by decide +kernel)) (by decide +kernel)
theorem ws_W_step : Cond.selects "EnclaveWarden" ⟨"EnclaveWarden", "step", "()V"⟩ ⟨"EnclaveWarden", "step", "()V"⟩ ∈ WS := ws_sel (List.mem_of_getElem? (i := 25) (by decide +kernel)) (by decide +kernel)
theorem ws_W_macOf : Cond.selects "EnclaveWarden" ⟨"EnclaveWarden", "macOf", "(II)I"⟩ ⟨"EnclaveWarden", "macOf", "(II)I"⟩ ∈ WS := ws_sel (List.mem_of_getElem? (i := 33) (by decide +kernel)) (by decide +kernel)
theorem ws_W_enclaveMayUse : Cond.selects "EnclaveWarden" ⟨"EnclaveWarden", "enclaveMayUse", "(II)Z"⟩ ⟨"EnclaveWarden", "enclaveMayUse", "(II)Z"⟩ ∈ WS := ws_sel (List.mem_of_getElem? (i := 29) (by decide +kernel)) (by decide +kernel)
theorem ws_W_leave : Cond.selects "EnclaveWarden" ⟨"EnclaveWarden", "leave", "(III)V"⟩ ⟨"EnclaveWarden", "leave", "(III)V"⟩ ∈ WS := ws_sel (List.mem_of_getElem? (i := 26) (by decide +kernel)) (by decide +kernel)
theorem ws_W_runningThread : Cond.selects "EnclaveWarden" ⟨"EnclaveWarden", "runningThread", "()LEnclaveWarden$EnclaveThread;"⟩ ⟨"EnclaveWarden", "runningThread", "()LEnclaveWarden$EnclaveThread;"⟩ ∈ WS := ws_sel (List.mem_of_getElem? (i := 27) (by decide +kernel)) (by decide +kernel)
theorem ws_W_runnerMayUse : Cond.selects "EnclaveWarden" ⟨"EnclaveWarden", "runnerMayUse", "(I)Z"⟩ ⟨"EnclaveWarden", "runnerMayUse", "(I)Z"⟩ ∈ WS := ws_sel (List.mem_of_getElem? (i := 28) (by decide +kernel)) (by decide +kernel)
theorem ws_W_obey : Cond.selects "EnclaveWarden" ⟨"EnclaveWarden", "obey", "(LEnclaveWarden$Core;I)V"⟩ ⟨"EnclaveWarden", "obey", "(LEnclaveWarden$Core;I)V"⟩ ∈ WS := ws_sel (List.mem_of_getElem? (i := 34) (by decide +kernel)) (by decide +kernel)
theorem ws_W_obeyCall : Cond.selects "EnclaveWarden" ⟨"EnclaveWarden", "obeyCall", "(LEnclaveWarden$Core;I)V"⟩ ⟨"EnclaveWarden", "obeyCall", "(LEnclaveWarden$Core;I)V"⟩ ∈ WS := ws_sel (List.mem_of_getElem? (i := 31) (by decide +kernel)) (by decide +kernel)
theorem ws_W_fault : Cond.selects "EnclaveWarden" ⟨"EnclaveWarden", "fault", "(I)V"⟩ ⟨"EnclaveWarden", "fault", "(I)V"⟩ ∈ WS := ws_sel (List.mem_of_getElem? (i := 30) (by decide +kernel)) (by decide +kernel)
theorem ws_W_enclaveCall : Cond.selects "EnclaveWarden" ⟨"EnclaveWarden", "enclaveCall", "(IIII)I"⟩ ⟨"EnclaveWarden", "enclaveCall", "(IIII)I"⟩ ∈ WS := ws_sel (List.mem_of_getElem? (i := 32) (by decide +kernel)) (by decide +kernel)
theorem ws_W_create : Cond.selects "EnclaveWarden" ⟨"EnclaveWarden", "create", "(II)I"⟩ ⟨"EnclaveWarden", "create", "(II)I"⟩ ∈ WS := ws_sel (List.mem_of_getElem? (i := 5) (by decide +kernel)) (by decide +kernel)
theorem ws_W_load : Cond.selects "EnclaveWarden" ⟨"EnclaveWarden", "load", "(III)I"⟩ ⟨"EnclaveWarden", "load", "(III)I"⟩ ∈ WS := ws_sel (List.mem_of_getElem? (i := 9) (by decide +kernel)) (by decide +kernel)
theorem ws_W_addThread : Cond.selects "EnclaveWarden" ⟨"EnclaveWarden", "addThread", "(II)I"⟩ ⟨"EnclaveWarden", "addThread", "(II)I"⟩ ∈ WS := ws_sel (List.mem_of_getElem? (i := 10) (by decide +kernel)) (by decide +kernel)
theorem ws_W_seal : Cond.selects "EnclaveWarden" ⟨"EnclaveWarden", "seal", "(I)I"⟩ ⟨"EnclaveWarden", "seal", "(I)I"⟩ ∈ WS := ws_sel (List.mem_of_getElem? (i := 12) (by decide +kernel)) (by decide +kernel)
theorem ws_W_share : Cond.selects "EnclaveWarden" ⟨"EnclaveWarden", "share", "(II)I"⟩ ⟨"EnclaveWarden", "share", "(II)I"⟩ ∈ WS := ws_sel (List.mem_of_getElem? (i := 13) (by decide +kernel)) (by decide +kernel)
theorem ws_W_enter : Cond.selects "EnclaveWarden" ⟨"EnclaveWarden", "enter", "(III)I"⟩ ⟨"EnclaveWarden", "enter", "(III)I"⟩ ∈ WS := ws_sel (List.mem_of_getElem? (i := 15) (by decide +kernel)) (by decide +kernel)
theorem ws_W_resume : Cond.selects "EnclaveWarden" ⟨"EnclaveWarden", "resume", "(II)I"⟩ ⟨"EnclaveWarden", "resume", "(II)I"⟩ ∈ WS := ws_sel (List.mem_of_getElem? (i := 19) (by decide +kernel)) (by decide +kernel)
theorem ws_W_stop : Cond.selects "EnclaveWarden" ⟨"EnclaveWarden", "stop", "(I)I"⟩ ⟨"EnclaveWarden", "stop", "(I)I"⟩ ∈ WS := ws_sel (List.mem_of_getElem? (i := 20) (by decide +kernel)) (by decide +kernel)
theorem ws_W_destroy : Cond.selects "EnclaveWarden" ⟨"EnclaveWarden", "destroy", "(I)I"⟩ ⟨"EnclaveWarden", "destroy", "(I)I"⟩ ∈ WS := ws_sel (List.mem_of_getElem? (i := 21) (by decide +kernel)) (by decide +kernel)
theorem ws_W_claim : Cond.selects "EnclaveWarden" ⟨"EnclaveWarden", "claim", "(I)I"⟩ ⟨"EnclaveWarden", "claim", "(I)I"⟩ ∈ WS := ws_sel (List.mem_of_getElem? (i := 23) (by decide +kernel)) (by decide +kernel)
theorem ws_W_giveUp : Cond.selects "EnclaveWarden" ⟨"EnclaveWarden", "giveUp", "(I)I"⟩ ⟨"EnclaveWarden", "giveUp", "(I)I"⟩ ∈ WS := ws_sel (List.mem_of_getElem? (i := 24) (by decide +kernel)) (by decide +kernel)
theorem ws_W_allFree : Cond.selects "EnclaveWarden" ⟨"EnclaveWarden", "allFree", "(II)Z"⟩ ⟨"EnclaveWarden", "allFree", "(II)Z"⟩ ∈ WS := ws_sel (List.mem_of_getElem? (i := 6) (by decide +kernel)) (by decide +kernel)
theorem ws_W_leastAbsent : Cond.selects "EnclaveWarden" ⟨"EnclaveWarden", "leastAbsent", "()I"⟩ ⟨"EnclaveWarden", "leastAbsent", "()I"⟩ ∈ WS := ws_sel (List.mem_of_getElem? (i := 7) (by decide +kernel)) (by decide +kernel)
theorem ws_V_become : Cond.selects "EnclaveWarden$Enclave" ⟨"EnclaveWarden$Enclave", "become", "(I)V"⟩ ⟨"EnclaveWarden$Enclave", "become", "(I)V"⟩ ∈ WS := ws_sel (List.mem_of_getElem? (i := 0) (by decide +kernel)) (by decide +kernel)
theorem ws_V_add : Cond.selects "EnclaveWarden$Enclave" ⟨"EnclaveWarden$Enclave", "add", "(I)V"⟩ ⟨"EnclaveWarden$Enclave", "add", "(I)V"⟩ ∈ WS := ws_sel (List.mem_of_getElem? (i := 8) (by decide +kernel)) (by decide +kernel)
theorem ws_V_threadCount : Cond.selects "EnclaveWarden$Enclave" ⟨"EnclaveWarden$Enclave", "threadCount", "()I"⟩ ⟨"EnclaveWarden$Enclave", "threadCount", "()I"⟩ ∈ WS := ws_sel (List.mem_of_getElem? (i := 11) (by decide +kernel)) (by decide +kernel)
theorem ws_W_sharedWith : Cond.selects "EnclaveWarden" ⟨"EnclaveWarden", "sharedWith", "(I)I"⟩ ⟨"EnclaveWarden", "sharedWith", "(I)I"⟩ ∈ WS := ws_sel (List.mem_of_getElem? (i := 14) (by decide +kernel)) (by decide +kernel)
theorem ws_W_refusalToStart : Cond.selects "EnclaveWarden" ⟨"EnclaveWarden", "refusalToStart", "(III)I"⟩ ⟨"EnclaveWarden", "refusalToStart", "(III)I"⟩ ∈ WS := ws_sel (List.mem_of_getElem? (i := 16) (by decide +kernel)) (by decide +kernel)
theorem ws_C_start : Cond.selects "EnclaveWarden$Core" ⟨"EnclaveWarden$Core", "start", "(II)V"⟩ ⟨"EnclaveWarden$Core", "start", "(II)V"⟩ ∈ WS := ws_sel (List.mem_of_getElem? (i := 17) (by decide +kernel)) (by decide +kernel)
theorem ws_W_handOver : Cond.selects "EnclaveWarden" ⟨"EnclaveWarden", "handOver", "(II)V"⟩ ⟨"EnclaveWarden", "handOver", "(II)V"⟩ ∈ WS := ws_sel (List.mem_of_getElem? (i := 18) (by decide +kernel)) (by decide +kernel)
theorem ws_W_free : Cond.selects "EnclaveWarden" ⟨"EnclaveWarden", "free", "(I)V"⟩ ⟨"EnclaveWarden", "free", "(I)V"⟩ ∈ WS := ws_sel (List.mem_of_getElem? (i := 22) (by decide +kernel)) (by decide +kernel)
theorem ws_M_kind : Cond.selects "EnclaveWardenModel" ⟨"EnclaveWardenModel", "kind", "(I)I"⟩ ⟨"EnclaveWardenModel", "kind", "(I)I"⟩ ∈ WS := ws_sel (List.mem_of_getElem? (i := 36) (by decide +kernel)) (by decide +kernel)
theorem ws_M_wrongState : Cond.selects "EnclaveWardenModel" ⟨"EnclaveWardenModel", "wrongState", "(III)Z"⟩ ⟨"EnclaveWardenModel", "wrongState", "(III)Z"⟩ ∈ WS := ws_sel (List.mem_of_getElem? (i := 38) (by decide +kernel)) (by decide +kernel)
theorem ws_M_taken : Cond.selects "EnclaveWardenModel" ⟨"EnclaveWardenModel", "taken", "(IIII)Z"⟩ ⟨"EnclaveWardenModel", "taken", "(IIII)Z"⟩ ∈ WS := ws_sel (List.mem_of_getElem? (i := 39) (by decide +kernel)) (by decide +kernel)
theorem ws_M_full : Cond.selects "EnclaveWardenModel" ⟨"EnclaveWardenModel", "full", "(II)Z"⟩ ⟨"EnclaveWardenModel", "full", "(II)Z"⟩ ∈ WS := ws_sel (List.mem_of_getElem? (i := 40) (by decide +kernel)) (by decide +kernel)
theorem ws_M_perform : Cond.selects "EnclaveWardenModel" ⟨"EnclaveWardenModel", "perform", "(IIII)V"⟩ ⟨"EnclaveWardenModel", "perform", "(IIII)V"⟩ ∈ WS := ws_sel (List.mem_of_getElem? (i := 44) (by decide +kernel)) (by decide +kernel)
theorem ws_M_append : Cond.selects "EnclaveWardenModel" ⟨"EnclaveWardenModel", "append", "(III)I"⟩ ⟨"EnclaveWardenModel", "append", "(III)I"⟩ ∈ WS := ws_sel (List.mem_of_getElem? (i := 43) (by decide +kernel)) (by decide +kernel)
theorem ws_M_create : Cond.selects "EnclaveWardenModel" ⟨"EnclaveWardenModel", "create", "(II)I"⟩ ⟨"EnclaveWardenModel", "create", "(II)I"⟩ ∈ WS := ws_sel (List.mem_of_getElem? (i := 41) (by decide +kernel)) (by decide +kernel)
theorem ws_M_add : Cond.selects "EnclaveWardenModel" ⟨"EnclaveWardenModel", "add", "(II)V"⟩ ⟨"EnclaveWardenModel", "add", "(II)V"⟩ ∈ WS := ws_sel (List.mem_of_getElem? (i := 42) (by decide +kernel)) (by decide +kernel)
theorem ws_M_load : Cond.selects "EnclaveWardenModel" ⟨"EnclaveWardenModel", "load", "(III)V"⟩ ⟨"EnclaveWardenModel", "load", "(III)V"⟩ ∈ WS := ws_sel (List.mem_of_getElem? (i := 45) (by decide +kernel)) (by decide +kernel)
theorem ws_M_wipe : Cond.selects "EnclaveWardenModel" ⟨"EnclaveWardenModel", "wipe", "(I)V"⟩ ⟨"EnclaveWardenModel", "wipe", "(I)V"⟩ ∈ WS := ws_sel (List.mem_of_getElem? (i := 47) (by decide +kernel)) (by decide +kernel)
theorem ws_M_destroy : Cond.selects "EnclaveWardenModel" ⟨"EnclaveWardenModel", "destroy", "(I)V"⟩ ⟨"EnclaveWardenModel", "destroy", "(I)V"⟩ ∈ WS := ws_sel (List.mem_of_getElem? (i := 46) (by decide +kernel)) (by decide +kernel)
theorem ws_M_leave : Cond.selects "EnclaveWardenModel" ⟨"EnclaveWardenModel", "leave", "(II)V"⟩ ⟨"EnclaveWardenModel", "leave", "(II)V"⟩ ∈ WS := ws_sel (List.mem_of_getElem? (i := 49) (by decide +kernel)) (by decide +kernel)
theorem ws_M_uses : Cond.selects "EnclaveWardenModel" ⟨"EnclaveWardenModel", "uses", "(II)Z"⟩ ⟨"EnclaveWardenModel", "uses", "(II)Z"⟩ ∈ WS := ws_sel (List.mem_of_getElem? (i := 35) (by decide +kernel)) (by decide +kernel)
theorem ws_M_fault : Cond.selects "EnclaveWardenModel" ⟨"EnclaveWardenModel", "fault", "(I)V"⟩ ⟨"EnclaveWardenModel", "fault", "(I)V"⟩ ∈ WS := ws_sel (List.mem_of_getElem? (i := 50) (by decide +kernel)) (by decide +kernel)
theorem ws_M_ask : Cond.selects "EnclaveWardenModel" ⟨"EnclaveWardenModel", "ask", "(I)V"⟩ ⟨"EnclaveWardenModel", "ask", "(I)V"⟩ ∈ WS := ws_sel (List.mem_of_getElem? (i := 53) (by decide +kernel)) (by decide +kernel)
theorem ws_M_access : Cond.selects "EnclaveWardenModel" ⟨"EnclaveWardenModel", "access", "(ZII)V"⟩ ⟨"EnclaveWardenModel", "access", "(ZII)V"⟩ ∈ WS := ws_sel (List.mem_of_getElem? (i := 52) (by decide +kernel)) (by decide +kernel)
theorem ws_M_put : Cond.selects "EnclaveWardenModel" ⟨"EnclaveWardenModel", "put", "(II)V"⟩ ⟨"EnclaveWardenModel", "put", "(II)V"⟩ ∈ WS := ws_sel (List.mem_of_getElem? (i := 51) (by decide +kernel)) (by decide +kernel)
theorem ws_M_mac : Cond.selects "EnclaveWardenModel" ⟨"EnclaveWardenModel", "mac", "(II)I"⟩ ⟨"EnclaveWardenModel", "mac", "(II)I"⟩ ∈ WS := ws_sel (List.mem_of_getElem? (i := 55) (by decide +kernel)) (by decide +kernel)
theorem ws_M_measured : Cond.selects "EnclaveWardenModel" ⟨"EnclaveWardenModel", "measured", "(I)I"⟩ ⟨"EnclaveWardenModel", "measured", "(I)I"⟩ ∈ WS := ws_sel (List.mem_of_getElem? (i := 54) (by decide +kernel)) (by decide +kernel)
theorem ws_M_system : Cond.selects "EnclaveWardenModel" ⟨"EnclaveWardenModel", "system", "(IIII)I"⟩ ⟨"EnclaveWardenModel", "system", "(IIII)I"⟩ ∈ WS := ws_sel (List.mem_of_getElem? (i := 37) (by decide +kernel)) (by decide +kernel)
theorem ws_M_step : Cond.selects "EnclaveWardenModel" ⟨"EnclaveWardenModel", "step", "()V"⟩ ⟨"EnclaveWardenModel", "step", "()V"⟩ ∈ WS := ws_sel (List.mem_of_getElem? (i := 48) (by decide +kernel)) (by decide +kernel)
theorem uw_W {c0 : Cond} : ∀ x ∈ u_ws R_W T_W 10, x ∈ c0 :: WS := by
  intro x hx
  obtain ⟨k, hk, rfl⟩ := List.mem_map.mp hx
  have hk := List.mem_range.mp hk
  rcases (show k = 0 ∨ k = 1 ∨ k = 2 ∨ k = 3 ∨ k = 4 ∨ k = 5 ∨ k = 6 ∨ k = 7 ∨ k = 8 ∨ k = 9 by omega) with rfl | rfl | rfl | rfl | rfl | rfl | rfl | rfl | rfl | rfl
  · exact List.mem_cons_of_mem _ w_90
  · exact List.mem_cons_of_mem _ w_92
  · exact List.mem_cons_of_mem _ w_94
  · exact List.mem_cons_of_mem _ w_96
  · exact List.mem_cons_of_mem _ w_98
  · exact List.mem_cons_of_mem _ w_100
  · exact List.mem_cons_of_mem _ w_102
  · exact List.mem_cons_of_mem _ w_104
  · exact List.mem_cons_of_mem _ w_106
  · exact List.mem_cons_of_mem _ w_108
theorem uw_V {c0 : Cond} : ∀ x ∈ u_ws R_V T_V 4, x ∈ c0 :: WS := by
  intro x hx
  obtain ⟨k, hk, rfl⟩ := List.mem_map.mp hx
  have hk := List.mem_range.mp hk
  rcases (show k = 0 ∨ k = 1 ∨ k = 2 ∨ k = 3 by omega) with rfl | rfl | rfl | rfl
  · exact List.mem_cons_of_mem _ w_69
  · exact List.mem_cons_of_mem _ w_71
  · exact List.mem_cons_of_mem _ w_73
  · exact List.mem_cons_of_mem _ w_75
theorem uw_T {c0 : Cond} : ∀ x ∈ u_ws R_T T_T 3, x ∈ c0 :: WS := by
  intro x hx
  obtain ⟨k, hk, rfl⟩ := List.mem_map.mp hx
  have hk := List.mem_range.mp hk
  rcases (show k = 0 ∨ k = 1 ∨ k = 2 by omega) with rfl | rfl | rfl
  · exact List.mem_cons_of_mem _ w_50
  · exact List.mem_cons_of_mem _ w_52
  · exact List.mem_cons_of_mem _ w_54
theorem uw_C {c0 : Cond} : ∀ x ∈ u_ws R_C T_C 2, x ∈ c0 :: WS := by
  intro x hx
  obtain ⟨k, hk, rfl⟩ := List.mem_map.mp hx
  have hk := List.mem_range.mp hk
  rcases (show k = 0 ∨ k = 1 by omega) with rfl | rfl
  · exact List.mem_cons_of_mem _ w_37
  · exact List.mem_cons_of_mem _ w_39
theorem uw_M {c0 : Cond} : ∀ x ∈ u_ws R_M T_M 23, x ∈ c0 :: WS := by
  intro x hx
  obtain ⟨k, hk, rfl⟩ := List.mem_map.mp hx
  have hk := List.mem_range.mp hk
  rcases (show k = 0 ∨ k = 1 ∨ k = 2 ∨ k = 3 ∨ k = 4 ∨ k = 5 ∨ k = 6 ∨ k = 7 ∨ k = 8 ∨ k = 9 ∨ k = 10 ∨ k = 11 ∨ k = 12 ∨ k = 13 ∨ k = 14 ∨ k = 15 ∨ k = 16 ∨ k = 17 ∨ k = 18 ∨ k = 19 ∨ k = 20 ∨ k = 21 ∨ k = 22 by omega) with rfl | rfl | rfl | rfl | rfl | rfl | rfl | rfl | rfl | rfl | rfl | rfl | rfl | rfl | rfl | rfl | rfl | rfl | rfl | rfl | rfl | rfl | rfl
  · exact List.mem_cons_of_mem _ w_381
  · exact List.mem_cons_of_mem _ w_383
  · exact List.mem_cons_of_mem _ w_385
  · exact List.mem_cons_of_mem _ w_387
  · exact List.mem_cons_of_mem _ w_389
  · exact List.mem_cons_of_mem _ w_391
  · exact List.mem_cons_of_mem _ w_393
  · exact List.mem_cons_of_mem _ w_395
  · exact List.mem_cons_of_mem _ w_397
  · exact List.mem_cons_of_mem _ w_399
  · exact List.mem_cons_of_mem _ w_401
  · exact List.mem_cons_of_mem _ w_403
  · exact List.mem_cons_of_mem _ w_405
  · exact List.mem_cons_of_mem _ w_407
  · exact List.mem_cons_of_mem _ w_409
  · exact List.mem_cons_of_mem _ w_411
  · exact List.mem_cons_of_mem _ w_413
  · exact List.mem_cons_of_mem _ w_415
  · exact List.mem_cons_of_mem _ w_417
  · exact List.mem_cons_of_mem _ w_419
  · exact List.mem_cons_of_mem _ w_421
  · exact List.mem_cons_of_mem _ w_423
  · exact List.mem_cons_of_mem _ w_425
