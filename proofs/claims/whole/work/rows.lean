section
-- ===== PART A: goes FIRST, ahead of the names: the tables' words, and 'selects' of the private methods out of them =====
/-- a private method of a class that the tables say can be made, by its rows of tables_1 -/
def lw_okq (q : MethodName × Nat) : Prop := (q.1.cls ≠ "java/lang/invoke/MethodHandle" ∧ q.1.cls ≠ "java/lang/invoke/VarHandle") ∧ Cond.instantiable q.1.cls q.2 ∈ tables_1 ∧ Cond.privateMethod q.1 ∈ tables_1 ∧ Cond.instanceMethod q.1 ∈ tables_1
theorem lw_p0 : lw_okq (⟨"LockSimulator", "operate", "(IIII)I"⟩, 6) := ⟨⟨by decide +kernel, by decide +kernel⟩, List.mem_of_getElem? (i := 27) (by decide +kernel), List.mem_of_getElem? (i := 419) (by decide +kernel), List.mem_of_getElem? (i := 420) (by decide +kernel)⟩
theorem lw_p1 : lw_okq (⟨"LockSimulator$World", "enterObject", "(II)I"⟩, 8) := ⟨⟨by decide +kernel, by decide +kernel⟩, List.mem_of_getElem? (i := 35) (by decide +kernel), List.mem_of_getElem? (i := 427) (by decide +kernel), List.mem_of_getElem? (i := 428) (by decide +kernel)⟩
theorem lw_p2 : lw_okq (⟨"LockSimulator$World", "runnerError", "(II)I"⟩, 8) := ⟨⟨by decide +kernel, by decide +kernel⟩, List.mem_of_getElem? (i := 35) (by decide +kernel), List.mem_of_getElem? (i := 431) (by decide +kernel), List.mem_of_getElem? (i := 432) (by decide +kernel)⟩
theorem lw_p3 : lw_okq (⟨"LockSimulator$World", "entryNeedsMonitor", "(ILLockSimulator$Lock;)Z"⟩, 8) := ⟨⟨by decide +kernel, by decide +kernel⟩, List.mem_of_getElem? (i := 35) (by decide +kernel), List.mem_of_getElem? (i := 442) (by decide +kernel), List.mem_of_getElem? (i := 443) (by decide +kernel)⟩
theorem lw_p4 : lw_okq (⟨"LockSimulator$World", "canInflate", "()Z"⟩, 8) := ⟨⟨by decide +kernel, by decide +kernel⟩, List.mem_of_getElem? (i := 35) (by decide +kernel), List.mem_of_getElem? (i := 450) (by decide +kernel), List.mem_of_getElem? (i := 451) (by decide +kernel)⟩
theorem lw_p5 : lw_okq (⟨"LockSimulator$World", "monitorIsFree", "()Z"⟩, 8) := ⟨⟨by decide +kernel, by decide +kernel⟩, List.mem_of_getElem? (i := 35) (by decide +kernel), List.mem_of_getElem? (i := 454) (by decide +kernel), List.mem_of_getElem? (i := 455) (by decide +kernel)⟩
theorem lw_p6 : lw_okq (⟨"LockSimulator$World", "longestIdle", "()LLockSimulator$Lock;"⟩, 8) := ⟨⟨by decide +kernel, by decide +kernel⟩, List.mem_of_getElem? (i := 35) (by decide +kernel), List.mem_of_getElem? (i := 459) (by decide +kernel), List.mem_of_getElem? (i := 460) (by decide +kernel)⟩
theorem lw_p7 : lw_okq (⟨"LockSimulator$World", "revokeBias", "(LLockSimulator$Lock;)V"⟩, 8) := ⟨⟨by decide +kernel, by decide +kernel⟩, List.mem_of_getElem? (i := 35) (by decide +kernel), List.mem_of_getElem? (i := 471) (by decide +kernel), List.mem_of_getElem? (i := 472) (by decide +kernel)⟩
theorem lw_p8 : lw_okq (⟨"LockSimulator$World", "endBiasing", "(I)V"⟩, 8) := ⟨⟨by decide +kernel, by decide +kernel⟩, List.mem_of_getElem? (i := 35) (by decide +kernel), List.mem_of_getElem? (i := 475) (by decide +kernel), List.mem_of_getElem? (i := 476) (by decide +kernel)⟩
theorem lw_p9 : lw_okq (⟨"LockSimulator$World", "beginEpoch", "(I)V"⟩, 8) := ⟨⟨by decide +kernel, by decide +kernel⟩, List.mem_of_getElem? (i := 35) (by decide +kernel), List.mem_of_getElem? (i := 483) (by decide +kernel), List.mem_of_getElem? (i := 484) (by decide +kernel)⟩
theorem lw_p10 : lw_okq (⟨"LockSimulator$World", "inflate", "(LLockSimulator$Lock;)V"⟩, 8) := ⟨⟨by decide +kernel, by decide +kernel⟩, List.mem_of_getElem? (i := 35) (by decide +kernel), List.mem_of_getElem? (i := 487) (by decide +kernel), List.mem_of_getElem? (i := 488) (by decide +kernel)⟩
theorem lw_p11 : lw_okq (⟨"LockSimulator$World", "deflate", "(LLockSimulator$Lock;)V"⟩, 8) := ⟨⟨by decide +kernel, by decide +kernel⟩, List.mem_of_getElem? (i := 35) (by decide +kernel), List.mem_of_getElem? (i := 491) (by decide +kernel), List.mem_of_getElem? (i := 492) (by decide +kernel)⟩
theorem lw_p12 : lw_okq (⟨"LockSimulator$World", "block", "(ILLockSimulator$Lock;)V"⟩, 8) := ⟨⟨by decide +kernel, by decide +kernel⟩, List.mem_of_getElem? (i := 35) (by decide +kernel), List.mem_of_getElem? (i := 500) (by decide +kernel), List.mem_of_getElem? (i := 501) (by decide +kernel)⟩
theorem lw_p13 : lw_okq (⟨"LockSimulator$World", "recover", "(LLockSimulator$Lock;)I"⟩, 8) := ⟨⟨by decide +kernel, by decide +kernel⟩, List.mem_of_getElem? (i := 35) (by decide +kernel), List.mem_of_getElem? (i := 508) (by decide +kernel), List.mem_of_getElem? (i := 509) (by decide +kernel)⟩
theorem lw_p14 : lw_okq (⟨"LockSimulator$World", "take", "(ILLockSimulator$Lock;)I"⟩, 8) := ⟨⟨by decide +kernel, by decide +kernel⟩, List.mem_of_getElem? (i := 35) (by decide +kernel), List.mem_of_getElem? (i := 512) (by decide +kernel), List.mem_of_getElem? (i := 513) (by decide +kernel)⟩
theorem lw_p15 : lw_okq (⟨"LockSimulator$World", "takeBiased", "(ILLockSimulator$Lock;)V"⟩, 8) := ⟨⟨by decide +kernel, by decide +kernel⟩, List.mem_of_getElem? (i := 35) (by decide +kernel), List.mem_of_getElem? (i := 516) (by decide +kernel), List.mem_of_getElem? (i := 517) (by decide +kernel)⟩
def lw_privs_1 : List (MethodName × Nat) := [(⟨"LockSimulator", "operate", "(IIII)I"⟩, 6), (⟨"LockSimulator$World", "enterObject", "(II)I"⟩, 8), (⟨"LockSimulator$World", "runnerError", "(II)I"⟩, 8), (⟨"LockSimulator$World", "entryNeedsMonitor", "(ILLockSimulator$Lock;)Z"⟩, 8), (⟨"LockSimulator$World", "canInflate", "()Z"⟩, 8), (⟨"LockSimulator$World", "monitorIsFree", "()Z"⟩, 8), (⟨"LockSimulator$World", "longestIdle", "()LLockSimulator$Lock;"⟩, 8), (⟨"LockSimulator$World", "revokeBias", "(LLockSimulator$Lock;)V"⟩, 8), (⟨"LockSimulator$World", "endBiasing", "(I)V"⟩, 8), (⟨"LockSimulator$World", "beginEpoch", "(I)V"⟩, 8), (⟨"LockSimulator$World", "inflate", "(LLockSimulator$Lock;)V"⟩, 8), (⟨"LockSimulator$World", "deflate", "(LLockSimulator$Lock;)V"⟩, 8), (⟨"LockSimulator$World", "block", "(ILLockSimulator$Lock;)V"⟩, 8), (⟨"LockSimulator$World", "recover", "(LLockSimulator$Lock;)I"⟩, 8), (⟨"LockSimulator$World", "take", "(ILLockSimulator$Lock;)I"⟩, 8), (⟨"LockSimulator$World", "takeBiased", "(ILLockSimulator$Lock;)V"⟩, 8)]
theorem lw_r1 : ∀ q ∈ lw_privs_1, lw_okq q := List.forall_mem_cons.mpr ⟨lw_p0, List.forall_mem_cons.mpr ⟨lw_p1, List.forall_mem_cons.mpr ⟨lw_p2, List.forall_mem_cons.mpr ⟨lw_p3, List.forall_mem_cons.mpr ⟨lw_p4, List.forall_mem_cons.mpr ⟨lw_p5, List.forall_mem_cons.mpr ⟨lw_p6, List.forall_mem_cons.mpr ⟨lw_p7, List.forall_mem_cons.mpr ⟨lw_p8, List.forall_mem_cons.mpr ⟨lw_p9, List.forall_mem_cons.mpr ⟨lw_p10, List.forall_mem_cons.mpr ⟨lw_p11, List.forall_mem_cons.mpr ⟨lw_p12, List.forall_mem_cons.mpr ⟨lw_p13, List.forall_mem_cons.mpr ⟨lw_p14, List.forall_mem_cons.mpr ⟨lw_p15, fun _ h => absurd h List.not_mem_nil⟩⟩⟩⟩⟩⟩⟩⟩⟩⟩⟩⟩⟩⟩⟩⟩
theorem lw_p16 : lw_okq (⟨"LockSimulator$World", "exitObject", "(II)I"⟩, 8) := ⟨⟨by decide +kernel, by decide +kernel⟩, List.mem_of_getElem? (i := 35) (by decide +kernel), List.mem_of_getElem? (i := 528) (by decide +kernel), List.mem_of_getElem? (i := 529) (by decide +kernel)⟩
theorem lw_p17 : lw_okq (⟨"LockSimulator$World", "ownerError", "(II)I"⟩, 8) := ⟨⟨by decide +kernel, by decide +kernel⟩, List.mem_of_getElem? (i := 35) (by decide +kernel), List.mem_of_getElem? (i := 532) (by decide +kernel), List.mem_of_getElem? (i := 533) (by decide +kernel)⟩
theorem lw_p18 : lw_okq (⟨"LockSimulator$World", "release", "(LLockSimulator$Lock;)V"⟩, 8) := ⟨⟨by decide +kernel, by decide +kernel⟩, List.mem_of_getElem? (i := 35) (by decide +kernel), List.mem_of_getElem? (i := 536) (by decide +kernel), List.mem_of_getElem? (i := 537) (by decide +kernel)⟩
theorem lw_p19 : lw_okq (⟨"LockSimulator$World", "giveToFirst", "(LLockSimulator$Lock;)V"⟩, 8) := ⟨⟨by decide +kernel, by decide +kernel⟩, List.mem_of_getElem? (i := 35) (by decide +kernel), List.mem_of_getElem? (i := 541) (by decide +kernel), List.mem_of_getElem? (i := 542) (by decide +kernel)⟩
theorem lw_p20 : lw_okq (⟨"LockSimulator$World", "awaitAt", "(III)I"⟩, 8) := ⟨⟨by decide +kernel, by decide +kernel⟩, List.mem_of_getElem? (i := 35) (by decide +kernel), List.mem_of_getElem? (i := 557) (by decide +kernel), List.mem_of_getElem? (i := 558) (by decide +kernel)⟩
theorem lw_p21 : lw_okq (⟨"LockSimulator$World", "beginWait", "(ILLockSimulator$Lock;I)V"⟩, 8) := ⟨⟨by decide +kernel, by decide +kernel⟩, List.mem_of_getElem? (i := 35) (by decide +kernel), List.mem_of_getElem? (i := 561) (by decide +kernel), List.mem_of_getElem? (i := 562) (by decide +kernel)⟩
theorem lw_p22 : lw_okq (⟨"LockSimulator$World", "notifyFirst", "(II)I"⟩, 8) := ⟨⟨by decide +kernel, by decide +kernel⟩, List.mem_of_getElem? (i := 35) (by decide +kernel), List.mem_of_getElem? (i := 565) (by decide +kernel), List.mem_of_getElem? (i := 566) (by decide +kernel)⟩
theorem lw_p23 : lw_okq (⟨"LockSimulator$World", "endWait", "(ILLockSimulator$Lock;I)V"⟩, 8) := ⟨⟨by decide +kernel, by decide +kernel⟩, List.mem_of_getElem? (i := 35) (by decide +kernel), List.mem_of_getElem? (i := 569) (by decide +kernel), List.mem_of_getElem? (i := 570) (by decide +kernel)⟩
theorem lw_p24 : lw_okq (⟨"LockSimulator$World", "notifyEach", "(II)I"⟩, 8) := ⟨⟨by decide +kernel, by decide +kernel⟩, List.mem_of_getElem? (i := 35) (by decide +kernel), List.mem_of_getElem? (i := 577) (by decide +kernel), List.mem_of_getElem? (i := 578) (by decide +kernel)⟩
theorem lw_p25 : lw_okq (⟨"LockSimulator$World", "interruptThread", "(I)I"⟩, 8) := ⟨⟨by decide +kernel, by decide +kernel⟩, List.mem_of_getElem? (i := 35) (by decide +kernel), List.mem_of_getElem? (i := 581) (by decide +kernel), List.mem_of_getElem? (i := 582) (by decide +kernel)⟩
theorem lw_p26 : lw_okq (⟨"LockSimulator$World", "endThread", "(I)I"⟩, 8) := ⟨⟨by decide +kernel, by decide +kernel⟩, List.mem_of_getElem? (i := 35) (by decide +kernel), List.mem_of_getElem? (i := 585) (by decide +kernel), List.mem_of_getElem? (i := 586) (by decide +kernel)⟩
theorem lw_p27 : lw_okq (⟨"LockSimulator$World", "startThread", "(I)I"⟩, 8) := ⟨⟨by decide +kernel, by decide +kernel⟩, List.mem_of_getElem? (i := 35) (by decide +kernel), List.mem_of_getElem? (i := 589) (by decide +kernel), List.mem_of_getElem? (i := 590) (by decide +kernel)⟩
theorem lw_p28 : lw_okq (⟨"LockSimulator$World", "hashOf", "(I)I"⟩, 8) := ⟨⟨by decide +kernel, by decide +kernel⟩, List.mem_of_getElem? (i := 35) (by decide +kernel), List.mem_of_getElem? (i := 593) (by decide +kernel), List.mem_of_getElem? (i := 594) (by decide +kernel)⟩
theorem lw_p29 : lw_okq (⟨"LockSimulator$World", "letPass", "(I)I"⟩, 8) := ⟨⟨by decide +kernel, by decide +kernel⟩, List.mem_of_getElem? (i := 35) (by decide +kernel), List.mem_of_getElem? (i := 597) (by decide +kernel), List.mem_of_getElem? (i := 598) (by decide +kernel)⟩
theorem lw_p30 : lw_okq (⟨"LockSimulator$World", "endOverdueWaits", "()V"⟩, 8) := ⟨⟨by decide +kernel, by decide +kernel⟩, List.mem_of_getElem? (i := 35) (by decide +kernel), List.mem_of_getElem? (i := 601) (by decide +kernel), List.mem_of_getElem? (i := 602) (by decide +kernel)⟩
theorem lw_p31 : lw_okq (⟨"LockSimulator$World", "wakeQueues", "()I"⟩, 8) := ⟨⟨by decide +kernel, by decide +kernel⟩, List.mem_of_getElem? (i := 35) (by decide +kernel), List.mem_of_getElem? (i := 605) (by decide +kernel), List.mem_of_getElem? (i := 606) (by decide +kernel)⟩
def lw_privs_2 : List (MethodName × Nat) := [(⟨"LockSimulator$World", "exitObject", "(II)I"⟩, 8), (⟨"LockSimulator$World", "ownerError", "(II)I"⟩, 8), (⟨"LockSimulator$World", "release", "(LLockSimulator$Lock;)V"⟩, 8), (⟨"LockSimulator$World", "giveToFirst", "(LLockSimulator$Lock;)V"⟩, 8), (⟨"LockSimulator$World", "awaitAt", "(III)I"⟩, 8), (⟨"LockSimulator$World", "beginWait", "(ILLockSimulator$Lock;I)V"⟩, 8), (⟨"LockSimulator$World", "notifyFirst", "(II)I"⟩, 8), (⟨"LockSimulator$World", "endWait", "(ILLockSimulator$Lock;I)V"⟩, 8), (⟨"LockSimulator$World", "notifyEach", "(II)I"⟩, 8), (⟨"LockSimulator$World", "interruptThread", "(I)I"⟩, 8), (⟨"LockSimulator$World", "endThread", "(I)I"⟩, 8), (⟨"LockSimulator$World", "startThread", "(I)I"⟩, 8), (⟨"LockSimulator$World", "hashOf", "(I)I"⟩, 8), (⟨"LockSimulator$World", "letPass", "(I)I"⟩, 8), (⟨"LockSimulator$World", "endOverdueWaits", "()V"⟩, 8), (⟨"LockSimulator$World", "wakeQueues", "()I"⟩, 8)]
theorem lw_r2 : ∀ q ∈ lw_privs_2, lw_okq q := List.forall_mem_cons.mpr ⟨lw_p16, List.forall_mem_cons.mpr ⟨lw_p17, List.forall_mem_cons.mpr ⟨lw_p18, List.forall_mem_cons.mpr ⟨lw_p19, List.forall_mem_cons.mpr ⟨lw_p20, List.forall_mem_cons.mpr ⟨lw_p21, List.forall_mem_cons.mpr ⟨lw_p22, List.forall_mem_cons.mpr ⟨lw_p23, List.forall_mem_cons.mpr ⟨lw_p24, List.forall_mem_cons.mpr ⟨lw_p25, List.forall_mem_cons.mpr ⟨lw_p26, List.forall_mem_cons.mpr ⟨lw_p27, List.forall_mem_cons.mpr ⟨lw_p28, List.forall_mem_cons.mpr ⟨lw_p29, List.forall_mem_cons.mpr ⟨lw_p30, List.forall_mem_cons.mpr ⟨lw_p31, fun _ h => absurd h List.not_mem_nil⟩⟩⟩⟩⟩⟩⟩⟩⟩⟩⟩⟩⟩⟩⟩⟩
theorem lw_p32 : lw_okq (⟨"LockSimulator$World", "deflateOverdue", "()V"⟩, 8) := ⟨⟨by decide +kernel, by decide +kernel⟩, List.mem_of_getElem? (i := 35) (by decide +kernel), List.mem_of_getElem? (i := 609) (by decide +kernel), List.mem_of_getElem? (i := 610) (by decide +kernel)⟩
theorem lw_p33 : lw_okq (⟨"LockSimulator$World", "waitedFor", "(I)I"⟩, 8) := ⟨⟨by decide +kernel, by decide +kernel⟩, List.mem_of_getElem? (i := 35) (by decide +kernel), List.mem_of_getElem? (i := 686) (by decide +kernel), List.mem_of_getElem? (i := 687) (by decide +kernel)⟩
theorem lw_p34 : lw_okq (⟨"LockSimulator$Lock", "stateWord", "()Ljava/lang/String;"⟩, 12) := ⟨⟨by decide +kernel, by decide +kernel⟩, List.mem_of_getElem? (i := 96) (by decide +kernel), List.mem_of_getElem? (i := 783) (by decide +kernel), List.mem_of_getElem? (i := 784) (by decide +kernel)⟩
theorem lw_p35 : lw_okq (⟨"LockSimulator", "costWith", "(II)I"⟩, 6) := ⟨⟨by decide +kernel, by decide +kernel⟩, List.mem_of_getElem? (i := 27) (by decide +kernel), List.mem_of_getElem? (i := 969) (by decide +kernel), List.mem_of_getElem? (i := 970) (by decide +kernel)⟩
theorem lw_p36 : lw_okq (⟨"LockSimulator$Script", "hasForm", "(Ljava/lang/String;II)Z"⟩, 4) := ⟨⟨by decide +kernel, by decide +kernel⟩, List.mem_of_getElem? (i := 283) (by decide +kernel), List.mem_of_getElem? (i := 1029) (by decide +kernel), List.mem_of_getElem? (i := 1030) (by decide +kernel)⟩
theorem lw_p37 : lw_okq (⟨"LockSimulator$Script", "matchSign", "(CII)I"⟩, 4) := ⟨⟨by decide +kernel, by decide +kernel⟩, List.mem_of_getElem? (i := 283) (by decide +kernel), List.mem_of_getElem? (i := 1054) (by decide +kernel), List.mem_of_getElem? (i := 1055) (by decide +kernel)⟩
theorem lw_p38 : lw_okq (⟨"LockSimulator$Script", "matchNumber", "(III)I"⟩, 4) := ⟨⟨by decide +kernel, by decide +kernel⟩, List.mem_of_getElem? (i := 283) (by decide +kernel), List.mem_of_getElem? (i := 1058) (by decide +kernel), List.mem_of_getElem? (i := 1059) (by decide +kernel)⟩
theorem lw_p39 : lw_okq (⟨"LockSimulator$Script", "isDigit", "(I)Z"⟩, 4) := ⟨⟨by decide +kernel, by decide +kernel⟩, List.mem_of_getElem? (i := 283) (by decide +kernel), List.mem_of_getElem? (i := 1062) (by decide +kernel), List.mem_of_getElem? (i := 1063) (by decide +kernel)⟩
theorem lw_p40 : lw_okq (⟨"LockSimulatorModel", "begin", "(I)V"⟩, 12) := ⟨⟨by decide +kernel, by decide +kernel⟩, List.mem_of_getElem? (i := 1112) (by decide +kernel), List.mem_of_getElem? (i := 1118) (by decide +kernel), List.mem_of_getElem? (i := 1119) (by decide +kernel)⟩
theorem lw_p41 : lw_okq (⟨"LockSimulatorModel", "isThread", "(I)Z"⟩, 12) := ⟨⟨by decide +kernel, by decide +kernel⟩, List.mem_of_getElem? (i := 1112) (by decide +kernel), List.mem_of_getElem? (i := 1192) (by decide +kernel), List.mem_of_getElem? (i := 1193) (by decide +kernel)⟩
theorem lw_p42 : lw_okq (⟨"LockSimulatorModel", "entering", "(II)I"⟩, 12) := ⟨⟨by decide +kernel, by decide +kernel⟩, List.mem_of_getElem? (i := 1112) (by decide +kernel), List.mem_of_getElem? (i := 1199) (by decide +kernel), List.mem_of_getElem? (i := 1200) (by decide +kernel)⟩
theorem lw_p43 : lw_okq (⟨"LockSimulatorModel", "isHeld", "(I)Z"⟩, 12) := ⟨⟨by decide +kernel, by decide +kernel⟩, List.mem_of_getElem? (i := 1112) (by decide +kernel), List.mem_of_getElem? (i := 1203) (by decide +kernel), List.mem_of_getElem? (i := 1204) (by decide +kernel)⟩
theorem lw_p44 : lw_okq (⟨"LockSimulatorModel", "inflates", "(I)Z"⟩, 12) := ⟨⟨by decide +kernel, by decide +kernel⟩, List.mem_of_getElem? (i := 1112) (by decide +kernel), List.mem_of_getElem? (i := 1207) (by decide +kernel), List.mem_of_getElem? (i := 1208) (by decide +kernel)⟩
theorem lw_p45 : lw_okq (⟨"LockSimulatorModel", "isIdle", "(I)Z"⟩, 12) := ⟨⟨by decide +kernel, by decide +kernel⟩, List.mem_of_getElem? (i := 1112) (by decide +kernel), List.mem_of_getElem? (i := 1211) (by decide +kernel), List.mem_of_getElem? (i := 1212) (by decide +kernel)⟩
theorem lw_p46 : lw_okq (⟨"LockSimulatorModel", "deflate", "(I)V"⟩, 12) := ⟨⟨by decide +kernel, by decide +kernel⟩, List.mem_of_getElem? (i := 1112) (by decide +kernel), List.mem_of_getElem? (i := 1215) (by decide +kernel), List.mem_of_getElem? (i := 1216) (by decide +kernel)⟩
theorem lw_p47 : lw_okq (⟨"LockSimulatorModel", "biased", "(IIZ)I"⟩, 12) := ⟨⟨by decide +kernel, by decide +kernel⟩, List.mem_of_getElem? (i := 1112) (by decide +kernel), List.mem_of_getElem? (i := 1219) (by decide +kernel), List.mem_of_getElem? (i := 1220) (by decide +kernel)⟩
def lw_privs_3 : List (MethodName × Nat) := [(⟨"LockSimulator$World", "deflateOverdue", "()V"⟩, 8), (⟨"LockSimulator$World", "waitedFor", "(I)I"⟩, 8), (⟨"LockSimulator$Lock", "stateWord", "()Ljava/lang/String;"⟩, 12), (⟨"LockSimulator", "costWith", "(II)I"⟩, 6), (⟨"LockSimulator$Script", "hasForm", "(Ljava/lang/String;II)Z"⟩, 4), (⟨"LockSimulator$Script", "matchSign", "(CII)I"⟩, 4), (⟨"LockSimulator$Script", "matchNumber", "(III)I"⟩, 4), (⟨"LockSimulator$Script", "isDigit", "(I)Z"⟩, 4), (⟨"LockSimulatorModel", "begin", "(I)V"⟩, 12), (⟨"LockSimulatorModel", "isThread", "(I)Z"⟩, 12), (⟨"LockSimulatorModel", "entering", "(II)I"⟩, 12), (⟨"LockSimulatorModel", "isHeld", "(I)Z"⟩, 12), (⟨"LockSimulatorModel", "inflates", "(I)Z"⟩, 12), (⟨"LockSimulatorModel", "isIdle", "(I)Z"⟩, 12), (⟨"LockSimulatorModel", "deflate", "(I)V"⟩, 12), (⟨"LockSimulatorModel", "biased", "(IIZ)I"⟩, 12)]
theorem lw_r3 : ∀ q ∈ lw_privs_3, lw_okq q := List.forall_mem_cons.mpr ⟨lw_p32, List.forall_mem_cons.mpr ⟨lw_p33, List.forall_mem_cons.mpr ⟨lw_p34, List.forall_mem_cons.mpr ⟨lw_p35, List.forall_mem_cons.mpr ⟨lw_p36, List.forall_mem_cons.mpr ⟨lw_p37, List.forall_mem_cons.mpr ⟨lw_p38, List.forall_mem_cons.mpr ⟨lw_p39, List.forall_mem_cons.mpr ⟨lw_p40, List.forall_mem_cons.mpr ⟨lw_p41, List.forall_mem_cons.mpr ⟨lw_p42, List.forall_mem_cons.mpr ⟨lw_p43, List.forall_mem_cons.mpr ⟨lw_p44, List.forall_mem_cons.mpr ⟨lw_p45, List.forall_mem_cons.mpr ⟨lw_p46, List.forall_mem_cons.mpr ⟨lw_p47, fun _ h => absurd h List.not_mem_nil⟩⟩⟩⟩⟩⟩⟩⟩⟩⟩⟩⟩⟩⟩⟩⟩
theorem lw_p48 : lw_okq (⟨"LockSimulatorModel", "hold", "(III)V"⟩, 12) := ⟨⟨by decide +kernel, by decide +kernel⟩, List.mem_of_getElem? (i := 1112) (by decide +kernel), List.mem_of_getElem? (i := 1223) (by decide +kernel), List.mem_of_getElem? (i := 1224) (by decide +kernel)⟩
theorem lw_p49 : lw_okq (⟨"LockSimulatorModel", "isValid", "(I)Z"⟩, 12) := ⟨⟨by decide +kernel, by decide +kernel⟩, List.mem_of_getElem? (i := 1112) (by decide +kernel), List.mem_of_getElem? (i := 1227) (by decide +kernel), List.mem_of_getElem? (i := 1228) (by decide +kernel)⟩
theorem lw_p50 : lw_okq (⟨"LockSimulatorModel", "revoke", "(I)V"⟩, 12) := ⟨⟨by decide +kernel, by decide +kernel⟩, List.mem_of_getElem? (i := 1112) (by decide +kernel), List.mem_of_getElem? (i := 1231) (by decide +kernel), List.mem_of_getElem? (i := 1232) (by decide +kernel)⟩
theorem lw_p51 : lw_okq (⟨"LockSimulatorModel", "unbias", "(I)V"⟩, 12) := ⟨⟨by decide +kernel, by decide +kernel⟩, List.mem_of_getElem? (i := 1112) (by decide +kernel), List.mem_of_getElem? (i := 1235) (by decide +kernel), List.mem_of_getElem? (i := 1236) (by decide +kernel)⟩
theorem lw_p52 : lw_okq (⟨"LockSimulatorModel", "entered", "(II)I"⟩, 12) := ⟨⟨by decide +kernel, by decide +kernel⟩, List.mem_of_getElem? (i := 1112) (by decide +kernel), List.mem_of_getElem? (i := 1239) (by decide +kernel), List.mem_of_getElem? (i := 1240) (by decide +kernel)⟩
theorem lw_p53 : lw_okq (⟨"LockSimulatorModel", "queueUp", "(II)V"⟩, 12) := ⟨⟨by decide +kernel, by decide +kernel⟩, List.mem_of_getElem? (i := 1112) (by decide +kernel), List.mem_of_getElem? (i := 1243) (by decide +kernel), List.mem_of_getElem? (i := 1244) (by decide +kernel)⟩
theorem lw_p54 : lw_okq (⟨"LockSimulatorModel", "record", "(IIII)V"⟩, 12) := ⟨⟨by decide +kernel, by decide +kernel⟩, List.mem_of_getElem? (i := 1112) (by decide +kernel), List.mem_of_getElem? (i := 1247) (by decide +kernel), List.mem_of_getElem? (i := 1248) (by decide +kernel)⟩
theorem lw_p55 : lw_okq (⟨"LockSimulatorModel", "forbidden", "(II)I"⟩, 12) := ⟨⟨by decide +kernel, by decide +kernel⟩, List.mem_of_getElem? (i := 1112) (by decide +kernel), List.mem_of_getElem? (i := 1255) (by decide +kernel), List.mem_of_getElem? (i := 1256) (by decide +kernel)⟩
theorem lw_p56 : lw_okq (⟨"LockSimulatorModel", "release", "(I)V"⟩, 12) := ⟨⟨by decide +kernel, by decide +kernel⟩, List.mem_of_getElem? (i := 1112) (by decide +kernel), List.mem_of_getElem? (i := 1259) (by decide +kernel), List.mem_of_getElem? (i := 1260) (by decide +kernel)⟩
theorem lw_p57 : lw_okq (⟨"LockSimulatorModel", "acquire", "(I)V"⟩, 12) := ⟨⟨by decide +kernel, by decide +kernel⟩, List.mem_of_getElem? (i := 1112) (by decide +kernel), List.mem_of_getElem? (i := 1263) (by decide +kernel), List.mem_of_getElem? (i := 1264) (by decide +kernel)⟩
theorem lw_p58 : lw_okq (⟨"LockSimulatorModel", "takeOut", "(III)V"⟩, 12) := ⟨⟨by decide +kernel, by decide +kernel⟩, List.mem_of_getElem? (i := 1112) (by decide +kernel), List.mem_of_getElem? (i := 1267) (by decide +kernel), List.mem_of_getElem? (i := 1268) (by decide +kernel)⟩
theorem lw_p59 : lw_okq (⟨"LockSimulatorModel", "endWait", "(IIZ)V"⟩, 12) := ⟨⟨by decide +kernel, by decide +kernel⟩, List.mem_of_getElem? (i := 1112) (by decide +kernel), List.mem_of_getElem? (i := 1279) (by decide +kernel), List.mem_of_getElem? (i := 1280) (by decide +kernel)⟩
theorem lw_p60 : lw_okq (⟨"LockSimulatorModel", "queueFirst", "(II)V"⟩, 12) := ⟨⟨by decide +kernel, by decide +kernel⟩, List.mem_of_getElem? (i := 1112) (by decide +kernel), List.mem_of_getElem? (i := 1283) (by decide +kernel), List.mem_of_getElem? (i := 1284) (by decide +kernel)⟩
theorem lw_p61 : lw_okq (⟨"LockSimulatorModel", "tickOnce", "()V"⟩, 12) := ⟨⟨by decide +kernel, by decide +kernel⟩, List.mem_of_getElem? (i := 1112) (by decide +kernel), List.mem_of_getElem? (i := 1311) (by decide +kernel), List.mem_of_getElem? (i := 1312) (by decide +kernel)⟩
theorem lw_p62 : lw_okq (⟨"LockSimulatorModel", "waitsFor", "(I)I"⟩, 12) := ⟨⟨by decide +kernel, by decide +kernel⟩, List.mem_of_getElem? (i := 1112) (by decide +kernel), List.mem_of_getElem? (i := 1339) (by decide +kernel), List.mem_of_getElem? (i := 1340) (by decide +kernel)⟩
theorem lw_p63 : lw_okq (⟨"LockSimulatorModel", "makeText", "(I)V"⟩, 12) := ⟨⟨by decide +kernel, by decide +kernel⟩, List.mem_of_getElem? (i := 1112) (by decide +kernel), List.mem_of_getElem? (i := 1371) (by decide +kernel), List.mem_of_getElem? (i := 1372) (by decide +kernel)⟩
def lw_privs_4 : List (MethodName × Nat) := [(⟨"LockSimulatorModel", "hold", "(III)V"⟩, 12), (⟨"LockSimulatorModel", "isValid", "(I)Z"⟩, 12), (⟨"LockSimulatorModel", "revoke", "(I)V"⟩, 12), (⟨"LockSimulatorModel", "unbias", "(I)V"⟩, 12), (⟨"LockSimulatorModel", "entered", "(II)I"⟩, 12), (⟨"LockSimulatorModel", "queueUp", "(II)V"⟩, 12), (⟨"LockSimulatorModel", "record", "(IIII)V"⟩, 12), (⟨"LockSimulatorModel", "forbidden", "(II)I"⟩, 12), (⟨"LockSimulatorModel", "release", "(I)V"⟩, 12), (⟨"LockSimulatorModel", "acquire", "(I)V"⟩, 12), (⟨"LockSimulatorModel", "takeOut", "(III)V"⟩, 12), (⟨"LockSimulatorModel", "endWait", "(IIZ)V"⟩, 12), (⟨"LockSimulatorModel", "queueFirst", "(II)V"⟩, 12), (⟨"LockSimulatorModel", "tickOnce", "()V"⟩, 12), (⟨"LockSimulatorModel", "waitsFor", "(I)I"⟩, 12), (⟨"LockSimulatorModel", "makeText", "(I)V"⟩, 12)]
theorem lw_r4 : ∀ q ∈ lw_privs_4, lw_okq q := List.forall_mem_cons.mpr ⟨lw_p48, List.forall_mem_cons.mpr ⟨lw_p49, List.forall_mem_cons.mpr ⟨lw_p50, List.forall_mem_cons.mpr ⟨lw_p51, List.forall_mem_cons.mpr ⟨lw_p52, List.forall_mem_cons.mpr ⟨lw_p53, List.forall_mem_cons.mpr ⟨lw_p54, List.forall_mem_cons.mpr ⟨lw_p55, List.forall_mem_cons.mpr ⟨lw_p56, List.forall_mem_cons.mpr ⟨lw_p57, List.forall_mem_cons.mpr ⟨lw_p58, List.forall_mem_cons.mpr ⟨lw_p59, List.forall_mem_cons.mpr ⟨lw_p60, List.forall_mem_cons.mpr ⟨lw_p61, List.forall_mem_cons.mpr ⟨lw_p62, List.forall_mem_cons.mpr ⟨lw_p63, fun _ h => absurd h List.not_mem_nil⟩⟩⟩⟩⟩⟩⟩⟩⟩⟩⟩⟩⟩⟩⟩⟩
theorem lw_p64 : lw_okq (⟨"LockSimulatorModel", "word", "(J)V"⟩, 12) := ⟨⟨by decide +kernel, by decide +kernel⟩, List.mem_of_getElem? (i := 1112) (by decide +kernel), List.mem_of_getElem? (i := 1388) (by decide +kernel), List.mem_of_getElem? (i := 1389) (by decide +kernel)⟩
theorem lw_p65 : lw_okq (⟨"LockSimulatorModel", "sign", "(I)V"⟩, 12) := ⟨⟨by decide +kernel, by decide +kernel⟩, List.mem_of_getElem? (i := 1112) (by decide +kernel), List.mem_of_getElem? (i := 1393) (by decide +kernel), List.mem_of_getElem? (i := 1394) (by decide +kernel)⟩
theorem lw_p66 : lw_okq (⟨"LockSimulatorModel", "blank", "()V"⟩, 12) := ⟨⟨by decide +kernel, by decide +kernel⟩, List.mem_of_getElem? (i := 1112) (by decide +kernel), List.mem_of_getElem? (i := 1397) (by decide +kernel), List.mem_of_getElem? (i := 1398) (by decide +kernel)⟩
theorem lw_p67 : lw_okq (⟨"LockSimulatorModel", "number", "(I)V"⟩, 12) := ⟨⟨by decide +kernel, by decide +kernel⟩, List.mem_of_getElem? (i := 1112) (by decide +kernel), List.mem_of_getElem? (i := 1403) (by decide +kernel), List.mem_of_getElem? (i := 1404) (by decide +kernel)⟩
theorem lw_p68 : lw_okq (⟨"LockSimulatorModel", "list", "(JII)V"⟩, 12) := ⟨⟨by decide +kernel, by decide +kernel⟩, List.mem_of_getElem? (i := 1112) (by decide +kernel), List.mem_of_getElem? (i := 1413) (by decide +kernel), List.mem_of_getElem? (i := 1414) (by decide +kernel)⟩
theorem lw_p69 : lw_okq (⟨"LockSimulatorModel", "replayed", "(II)I"⟩, 12) := ⟨⟨by decide +kernel, by decide +kernel⟩, List.mem_of_getElem? (i := 1112) (by decide +kernel), List.mem_of_getElem? (i := 1445) (by decide +kernel), List.mem_of_getElem? (i := 1446) (by decide +kernel)⟩
theorem lw_p70 : lw_okq (⟨"LockSimulatorModel", "operate", "(IIII)I"⟩, 12) := ⟨⟨by decide +kernel, by decide +kernel⟩, List.mem_of_getElem? (i := 1112) (by decide +kernel), List.mem_of_getElem? (i := 1449) (by decide +kernel), List.mem_of_getElem? (i := 1450) (by decide +kernel)⟩
theorem lw_p71 : lw_okq (⟨"LockSimulatorModel", "readsItem", "()Z"⟩, 12) := ⟨⟨by decide +kernel, by decide +kernel⟩, List.mem_of_getElem? (i := 1112) (by decide +kernel), List.mem_of_getElem? (i := 1480) (by decide +kernel), List.mem_of_getElem? (i := 1481) (by decide +kernel)⟩
theorem lw_p72 : lw_okq (⟨"LockSimulatorModel", "passes", "(I)Z"⟩, 12) := ⟨⟨by decide +kernel, by decide +kernel⟩, List.mem_of_getElem? (i := 1112) (by decide +kernel), List.mem_of_getElem? (i := 1484) (by decide +kernel), List.mem_of_getElem? (i := 1485) (by decide +kernel)⟩
theorem lw_p73 : lw_okq (⟨"LockSimulatorModel", "argument", "(I)I"⟩, 12) := ⟨⟨by decide +kernel, by decide +kernel⟩, List.mem_of_getElem? (i := 1112) (by decide +kernel), List.mem_of_getElem? (i := 1512) (by decide +kernel), List.mem_of_getElem? (i := 1513) (by decide +kernel)⟩
theorem lw_p74 : lw_okq (⟨"LockSimulatorModel", "isDigit", "(I)Z"⟩, 12) := ⟨⟨by decide +kernel, by decide +kernel⟩, List.mem_of_getElem? (i := 1112) (by decide +kernel), List.mem_of_getElem? (i := 1516) (by decide +kernel), List.mem_of_getElem? (i := 1517) (by decide +kernel)⟩
def lw_privs_5 : List (MethodName × Nat) := [(⟨"LockSimulatorModel", "word", "(J)V"⟩, 12), (⟨"LockSimulatorModel", "sign", "(I)V"⟩, 12), (⟨"LockSimulatorModel", "blank", "()V"⟩, 12), (⟨"LockSimulatorModel", "number", "(I)V"⟩, 12), (⟨"LockSimulatorModel", "list", "(JII)V"⟩, 12), (⟨"LockSimulatorModel", "replayed", "(II)I"⟩, 12), (⟨"LockSimulatorModel", "operate", "(IIII)I"⟩, 12), (⟨"LockSimulatorModel", "readsItem", "()Z"⟩, 12), (⟨"LockSimulatorModel", "passes", "(I)Z"⟩, 12), (⟨"LockSimulatorModel", "argument", "(I)I"⟩, 12), (⟨"LockSimulatorModel", "isDigit", "(I)Z"⟩, 12)]
theorem lw_r5 : ∀ q ∈ lw_privs_5, lw_okq q := List.forall_mem_cons.mpr ⟨lw_p64, List.forall_mem_cons.mpr ⟨lw_p65, List.forall_mem_cons.mpr ⟨lw_p66, List.forall_mem_cons.mpr ⟨lw_p67, List.forall_mem_cons.mpr ⟨lw_p68, List.forall_mem_cons.mpr ⟨lw_p69, List.forall_mem_cons.mpr ⟨lw_p70, List.forall_mem_cons.mpr ⟨lw_p71, List.forall_mem_cons.mpr ⟨lw_p72, List.forall_mem_cons.mpr ⟨lw_p73, List.forall_mem_cons.mpr ⟨lw_p74, fun _ h => absurd h List.not_mem_nil⟩⟩⟩⟩⟩⟩⟩⟩⟩⟩⟩
def lw_privs : List (MethodName × Nat) := lw_privs_1 ++ (lw_privs_2 ++ (lw_privs_3 ++ (lw_privs_4 ++ (lw_privs_5))))
def lw_tbl : List Cond := k2_sels lw_privs ++ tables_1
theorem lw_privs_ok : ∀ q ∈ lw_privs, lw_okq q := by
  show ∀ q ∈ lw_privs_1 ++ (lw_privs_2 ++ (lw_privs_3 ++ (lw_privs_4 ++ (lw_privs_5)))), lw_okq q
  exact List.forall_mem_append.mpr ⟨lw_r1, List.forall_mem_append.mpr ⟨lw_r2, List.forall_mem_append.mpr ⟨lw_r3, List.forall_mem_append.mpr ⟨lw_r4, lw_r5⟩⟩⟩⟩
end
section
def RX0 : String := "LockSimulator$Journal"
def TX0 : u_T := fun k => match k with
  | 0 => ("LockSimulator$Journal", "operations", "[I", true)
  | 1 => ("LockSimulator$Journal", "firsts", "[I", true)
  | 2 => ("LockSimulator$Journal", "seconds", "[I", true)
  | 3 => ("LockSimulator$Journal", "thirds", "[I", true)
  | _ => ("LockSimulator$Journal", "size", "I", false)
def tyX0 : Nat → FieldType := fun k => match k with
  | 0 => .array .int
  | 1 => .array .int
  | 2 => .array .int
  | 3 => .array .int
  | _ => .int
abbrev wsX00 : List Cond := u_ws RX0 TX0 5
theorem nmX0 : ∀ a, a < 5 → ∀ b, b < 5 → a ≠ b → (TX0 a).2.1 ≠ (TX0 b).2.1 := by decide +kernel
theorem tyX0_ok : ∀ k, k < 5 → parseFieldDescriptor (TX0 k).2.2.1 = some (tyX0 k) := by decide +kernel
abbrev cX0_init : ByteArray := prog_2_method_1_code
def yX0_init : MethodName := ⟨RX0, "<init>", "()V"⟩
abbrev cX0_add : ByteArray := prog_2_method_2_code
def yX0_add : MethodName := ⟨RX0, "add", "(IIII)V"⟩
abbrev cX0_clear : ByteArray := prog_2_method_3_code
def yX0_clear : MethodName := ⟨RX0, "clear", "()V"⟩
abbrev cX0_copyFrom : ByteArray := prog_2_method_4_code
def yX0_copyFrom : MethodName := ⟨RX0, "copyFrom", "(LLockSimulator$Journal;)V"⟩
def RX1 : String := "LockSimulator$Kind"
def TX1 : u_T := fun k => match k with
  | 0 => ("LockSimulator$Kind", "epoch", "I", false)
  | 1 => ("LockSimulator$Kind", "revocations", "I", false)
  | _ => ("LockSimulator$Kind", "biasable", "Z", false)
def tyX1 : Nat → FieldType := fun k => match k with
  | 0 => .int
  | 1 => .int
  | _ => .boolean
abbrev wsX10 : List Cond := u_ws RX1 TX1 3
theorem nmX1 : ∀ a, a < 3 → ∀ b, b < 3 → a ≠ b → (TX1 a).2.1 ≠ (TX1 b).2.1 := by decide +kernel
theorem tyX1_ok : ∀ k, k < 3 → parseFieldDescriptor (TX1 k).2.2.1 = some (tyX1 k) := by decide +kernel
abbrev cX1_init : ByteArray := prog_3_method_1_code
def yX1_init : MethodName := ⟨RX1, "<init>", "()V"⟩
abbrev cX1_clear : ByteArray := prog_3_method_2_code
def yX1_clear : MethodName := ⟨RX1, "clear", "()V"⟩
abbrev cX1_copyFrom : ByteArray := prog_3_method_3_code
def yX1_copyFrom : MethodName := ⟨RX1, "copyFrom", "(LLockSimulator$Kind;)V"⟩
def RX2 : String := "LockSimulator$Line"
def TX2 : u_T := fun k => match k with
  | 0 => ("LockSimulator$Line", "members", "[I", true)
  | _ => ("LockSimulator$Line", "size", "I", false)
def tyX2 : Nat → FieldType := fun k => match k with
  | 0 => .array .int
  | _ => .int
abbrev wsX20 : List Cond := u_ws RX2 TX2 2
theorem nmX2 : ∀ a, a < 2 → ∀ b, b < 2 → a ≠ b → (TX2 a).2.1 ≠ (TX2 b).2.1 := by decide +kernel
theorem tyX2_ok : ∀ k, k < 2 → parseFieldDescriptor (TX2 k).2.2.1 = some (tyX2 k) := by decide +kernel
abbrev cX2_init : ByteArray := prog_4_method_1_code
def yX2_init : MethodName := ⟨RX2, "<init>", "()V"⟩
abbrev cX2_isEmpty : ByteArray := prog_4_method_2_code
def yX2_isEmpty : MethodName := ⟨RX2, "isEmpty", "()Z"⟩
abbrev cX2_at : ByteArray := prog_4_method_3_code
def yX2_at : MethodName := ⟨RX2, "at", "(I)I"⟩
abbrev cX2_append : ByteArray := prog_4_method_4_code
def yX2_append : MethodName := ⟨RX2, "append", "(I)V"⟩
abbrev cX2_putFirst : ByteArray := prog_4_method_5_code
def yX2_putFirst : MethodName := ⟨RX2, "putFirst", "(I)V"⟩
abbrev cX2_drop : ByteArray := prog_4_method_6_code
def yX2_drop : MethodName := ⟨RX2, "drop", "(I)V"⟩
abbrev cX2_clear : ByteArray := prog_4_method_7_code
def yX2_clear : MethodName := ⟨RX2, "clear", "()V"⟩
abbrev cX2_putMembers : ByteArray := prog_4_method_8_code
def yX2_putMembers : MethodName := ⟨RX2, "putMembers", "(Ljava/lang/StringBuilder;)V"⟩
abbrev cX2_copyFrom : ByteArray := prog_4_method_9_code
def yX2_copyFrom : MethodName := ⟨RX2, "copyFrom", "(LLockSimulator$Line;)V"⟩
def RX3 : String := "LockSimulator$Lock"
def TX3 : u_T := fun k => match k with
  | 0 => ("LockSimulator$Lock", "number", "I", true)
  | 1 => ("LockSimulator$Lock", "kind", "I", true)
  | 2 => ("LockSimulator$Lock", "state", "I", false)
  | 3 => ("LockSimulator$Lock", "holder", "I", false)
  | 4 => ("LockSimulator$Lock", "entries", "I", false)
  | 5 => ("LockSimulator$Lock", "biasThread", "I", false)
  | 6 => ("LockSimulator$Lock", "epoch", "I", false)
  | 7 => ("LockSimulator$Lock", "abandoned", "Z", false)
  | 8 => ("LockSimulator$Lock", "hashValue", "I", false)
  | 9 => ("LockSimulator$Lock", "idleSince", "I", false)
  | 10 => ("LockSimulator$Lock", "queue", "LLockSimulator$Line;", true)
  | _ => ("LockSimulator$Lock", "waitSet", "LLockSimulator$Line;", true)
def tyX3 : Nat → FieldType := fun k => match k with
  | 0 => .int
  | 1 => .int
  | 2 => .int
  | 3 => .int
  | 4 => .int
  | 5 => .int
  | 6 => .int
  | 7 => .boolean
  | 8 => .int
  | 9 => .int
  | 10 => .object "LockSimulator$Line"
  | _ => .object "LockSimulator$Line"
abbrev wsX30 : List Cond := u_ws RX3 TX3 12
theorem nmX3 : ∀ a, a < 12 → ∀ b, b < 12 → a ≠ b → (TX3 a).2.1 ≠ (TX3 b).2.1 := by decide +kernel
theorem tyX3_ok : ∀ k, k < 12 → parseFieldDescriptor (TX3 k).2.2.1 = some (tyX3 k) := by decide +kernel
abbrev cX3_init : ByteArray := prog_5_method_1_code
def yX3_init : MethodName := ⟨RX3, "<init>", "(I)V"⟩
abbrev cX3_clear : ByteArray := prog_5_method_2_code
def yX3_clear : MethodName := ⟨RX3, "clear", "(Z)V"⟩
abbrev cX3_isHeld : ByteArray := prog_5_method_3_code
def yX3_isHeld : MethodName := ⟨RX3, "isHeld", "()Z"⟩
abbrev cX3_isHeldBy : ByteArray := prog_5_method_4_code
def yX3_isHeldBy : MethodName := ⟨RX3, "isHeldBy", "(I)Z"⟩
abbrev cX3_isIdle : ByteArray := prog_5_method_5_code
def yX3_isIdle : MethodName := ⟨RX3, "isIdle", "()Z"⟩
abbrev cX3_give : ByteArray := prog_5_method_6_code
def yX3_give : MethodName := ⟨RX3, "give", "(II)V"⟩
abbrev cX3_letGo : ByteArray := prog_5_method_7_code
def yX3_letGo : MethodName := ⟨RX3, "letGo", "()V"⟩
abbrev cX3_loseBias : ByteArray := prog_5_method_8_code
def yX3_loseBias : MethodName := ⟨RX3, "loseBias", "()V"⟩
abbrev cX3_putDescription : ByteArray := prog_5_method_9_code
def yX3_putDescription : MethodName := ⟨RX3, "putDescription", "(Ljava/lang/StringBuilder;Z)V"⟩
abbrev cX3_stateWord : ByteArray := prog_5_method_10_code
def yX3_stateWord : MethodName := ⟨RX3, "stateWord", "()Ljava/lang/String;"⟩
abbrev cX3_copyFrom : ByteArray := prog_5_method_11_code
def yX3_copyFrom : MethodName := ⟨RX3, "copyFrom", "(LLockSimulator$Lock;)V"⟩
def RX4 : String := "LockSimulator$Operation"
def TX4 : u_T := fun k => match k with
  | _ => ("", "", "", false)
def tyX4 : Nat → FieldType := fun k => match k with
  | _ => .int
abbrev wsX40 : List Cond := u_ws RX4 TX4 0
theorem nmX4 : ∀ a, a < 0 → ∀ b, b < 0 → a ≠ b → (TX4 a).2.1 ≠ (TX4 b).2.1 := by decide +kernel
theorem tyX4_ok : ∀ k, k < 0 → parseFieldDescriptor (TX4 k).2.2.1 = some (tyX4 k) := by decide +kernel
abbrev cX4_form : ByteArray := prog_6_method_2_code
def yX4_form : MethodName := ⟨RX4, "form", "(I)Ljava/lang/String;"⟩
def RX5 : String := "LockSimulator$Script"
def TX5 : u_T := fun k => match k with
  | 0 => ("LockSimulator$Script", "codes", "[I", true)
  | 1 => ("LockSimulator$Script", "arguments", "[I", true)
  | 2 => ("LockSimulator$Script", "argumentCount", "I", false)
  | _ => ("LockSimulator$Script", "length", "I", false)
def tyX5 : Nat → FieldType := fun k => match k with
  | 0 => .array .int
  | 1 => .array .int
  | 2 => .int
  | _ => .int
abbrev wsX50 : List Cond := u_ws RX5 TX5 4
theorem nmX5 : ∀ a, a < 4 → ∀ b, b < 4 → a ≠ b → (TX5 a).2.1 ≠ (TX5 b).2.1 := by decide +kernel
theorem tyX5_ok : ∀ k, k < 4 → parseFieldDescriptor (TX5 k).2.2.1 = some (tyX5 k) := by decide +kernel
abbrev cX5_init : ByteArray := prog_7_method_1_code
def yX5_init : MethodName := ⟨RX5, "<init>", "()V"⟩
abbrev cX5_append : ByteArray := prog_7_method_2_code
def yX5_append : MethodName := ⟨RX5, "append", "(I)Z"⟩
abbrev cX5_faultyItem : ByteArray := prog_7_method_3_code
def yX5_faultyItem : MethodName := ⟨RX5, "faultyItem", "()I"⟩
abbrev cX5_endOfItem : ByteArray := prog_7_method_4_code
def yX5_endOfItem : MethodName := ⟨RX5, "endOfItem", "(I)I"⟩
abbrev cX5_readItem : ByteArray := prog_7_method_5_code
def yX5_readItem : MethodName := ⟨RX5, "readItem", "(II)I"⟩
abbrev cX5_argument : ByteArray := prog_7_method_6_code
def yX5_argument : MethodName := ⟨RX5, "argument", "(I)I"⟩
abbrev cX5_hasForm : ByteArray := prog_7_method_7_code
def yX5_hasForm : MethodName := ⟨RX5, "hasForm", "(Ljava/lang/String;II)Z"⟩
abbrev cX5_matchSign : ByteArray := prog_7_method_8_code
def yX5_matchSign : MethodName := ⟨RX5, "matchSign", "(CII)I"⟩
abbrev cX5_matchNumber : ByteArray := prog_7_method_9_code
def yX5_matchNumber : MethodName := ⟨RX5, "matchNumber", "(III)I"⟩
abbrev cX5_isDigit : ByteArray := prog_7_method_10_code
def yX5_isDigit : MethodName := ⟨RX5, "isDigit", "(I)Z"⟩
def RX6 : String := "LockSimulator$Settings"
def TX6 : u_T := fun k => match k with
  | _ => ("LockSimulator$Settings", "values", "[I", true)
def tyX6 : Nat → FieldType := fun k => match k with
  | _ => .array .int
abbrev wsX60 : List Cond := u_ws RX6 TX6 1
theorem nmX6 : ∀ a, a < 1 → ∀ b, b < 1 → a ≠ b → (TX6 a).2.1 ≠ (TX6 b).2.1 := by decide +kernel
theorem tyX6_ok : ∀ k, k < 1 → parseFieldDescriptor (TX6 k).2.2.1 = some (tyX6 k) := by decide +kernel
abbrev cX6_init : ByteArray := prog_8_method_1_code
def yX6_init : MethodName := ⟨RX6, "<init>", "()V"⟩
abbrev cX6_exists : ByteArray := prog_8_method_2_code
def yX6_exists : MethodName := ⟨RX6, "exists", "(I)Z"⟩
abbrev cX6_allows : ByteArray := prog_8_method_3_code
def yX6_allows : MethodName := ⟨RX6, "allows", "(II)Z"⟩
abbrev cX6_least : ByteArray := prog_8_method_4_code
def yX6_least : MethodName := ⟨RX6, "least", "(I)I"⟩
abbrev cX6_greatest : ByteArray := prog_8_method_5_code
def yX6_greatest : MethodName := ⟨RX6, "greatest", "(I)I"⟩
abbrev cX6_valueOf : ByteArray := prog_8_method_6_code
def yX6_valueOf : MethodName := ⟨RX6, "valueOf", "(I)I"⟩
abbrev cX6_change : ByteArray := prog_8_method_7_code
def yX6_change : MethodName := ⟨RX6, "change", "(II)V"⟩
abbrev cX6_copyFrom : ByteArray := prog_8_method_8_code
def yX6_copyFrom : MethodName := ⟨RX6, "copyFrom", "(LLockSimulator$Settings;)V"⟩
def RX7 : String := "LockSimulator$Slot"
def TX7 : u_T := fun k => match k with
  | 0 => ("LockSimulator$Slot", "world", "LLockSimulator$World;", true)
  | 1 => ("LockSimulator$Slot", "journal", "LLockSimulator$Journal;", true)
  | _ => ("LockSimulator$Slot", "used", "Z", false)
def tyX7 : Nat → FieldType := fun k => match k with
  | 0 => .object "LockSimulator$World"
  | 1 => .object "LockSimulator$Journal"
  | _ => .boolean
abbrev wsX70 : List Cond := u_ws RX7 TX7 3
theorem nmX7 : ∀ a, a < 3 → ∀ b, b < 3 → a ≠ b → (TX7 a).2.1 ≠ (TX7 b).2.1 := by decide +kernel
theorem tyX7_ok : ∀ k, k < 3 → parseFieldDescriptor (TX7 k).2.2.1 = some (tyX7 k) := by decide +kernel
abbrev cX7_init : ByteArray := prog_9_method_1_code
def yX7_init : MethodName := ⟨RX7, "<init>", "()V"⟩
def RX8 : String := "LockSimulator$Strand"
def TX8 : u_T := fun k => match k with
  | 0 => ("LockSimulator$Strand", "state", "I", false)
  | 1 => ("LockSimulator$Strand", "interrupted", "Z", false)
  | 2 => ("LockSimulator$Strand", "place", "I", false)
  | 3 => ("LockSimulator$Strand", "limit", "I", false)
  | 4 => ("LockSimulator$Strand", "dueEntries", "I", false)
  | _ => ("LockSimulator$Strand", "waitEnding", "I", false)
def tyX8 : Nat → FieldType := fun k => match k with
  | 0 => .int
  | 1 => .boolean
  | 2 => .int
  | 3 => .int
  | 4 => .int
  | _ => .int
abbrev wsX80 : List Cond := u_ws RX8 TX8 6
theorem nmX8 : ∀ a, a < 6 → ∀ b, b < 6 → a ≠ b → (TX8 a).2.1 ≠ (TX8 b).2.1 := by decide +kernel
theorem tyX8_ok : ∀ k, k < 6 → parseFieldDescriptor (TX8 k).2.2.1 = some (tyX8 k) := by decide +kernel
abbrev cX8_init : ByteArray := prog_10_method_1_code
def yX8_init : MethodName := ⟨RX8, "<init>", "()V"⟩
abbrev cX8_clear : ByteArray := prog_10_method_2_code
def yX8_clear : MethodName := ⟨RX8, "clear", "()V"⟩
abbrev cX8_leavePlace : ByteArray := prog_10_method_3_code
def yX8_leavePlace : MethodName := ⟨RX8, "leavePlace", "(I)V"⟩
abbrev cX8_copyFrom : ByteArray := prog_10_method_4_code
def yX8_copyFrom : MethodName := ⟨RX8, "copyFrom", "(LLockSimulator$Strand;)V"⟩
def RX9 : String := "LockSimulator$Tally"
def TX9 : u_T := fun k => match k with
  | _ => ("", "", "", false)
def tyX9 : Nat → FieldType := fun k => match k with
  | _ => .int
abbrev wsX90 : List Cond := u_ws RX9 TX9 0
theorem nmX9 : ∀ a, a < 0 → ∀ b, b < 0 → a ≠ b → (TX9 a).2.1 ≠ (TX9 b).2.1 := by decide +kernel
theorem tyX9_ok : ∀ k, k < 0 → parseFieldDescriptor (TX9 k).2.2.1 = some (tyX9 k) := by decide +kernel
abbrev cX9_price : ByteArray := prog_11_method_2_code
def yX9_price : MethodName := ⟨RX9, "price", "([I)I"⟩
def RX10 : String := "LockSimulator$World"
def TX10 : u_T := fun k => match k with
  | 0 => ("LockSimulator$World", "settings", "LLockSimulator$Settings;", true)
  | 1 => ("LockSimulator$World", "counts", "[I", true)
  | 2 => ("LockSimulator$World", "strands", "[LLockSimulator$Strand;", true)
  | 3 => ("LockSimulator$World", "locks", "[LLockSimulator$Lock;", true)
  | 4 => ("LockSimulator$World", "kinds", "[LLockSimulator$Kind;", true)
  | 5 => ("LockSimulator$World", "threadCount", "I", false)
  | 6 => ("LockSimulator$World", "now", "I", false)
  | _ => ("LockSimulator$World", "hashesMade", "I", false)
def tyX10 : Nat → FieldType := fun k => match k with
  | 0 => .object "LockSimulator$Settings"
  | 1 => .array .int
  | 2 => .array (.object "LockSimulator$Strand")
  | 3 => .array (.object "LockSimulator$Lock")
  | 4 => .array (.object "LockSimulator$Kind")
  | 5 => .int
  | 6 => .int
  | _ => .int
abbrev wsX100 : List Cond := u_ws RX10 TX10 8
theorem nmX10 : ∀ a, a < 8 → ∀ b, b < 8 → a ≠ b → (TX10 a).2.1 ≠ (TX10 b).2.1 := by decide +kernel
theorem tyX10_ok : ∀ k, k < 8 → parseFieldDescriptor (TX10 k).2.2.1 = some (tyX10 k) := by decide +kernel
abbrev cX10_init : ByteArray := prog_12_method_1_code
def yX10_init : MethodName := ⟨RX10, "<init>", "()V"⟩
abbrev cX10_begin : ByteArray := prog_12_method_2_code
def yX10_begin : MethodName := ⟨RX10, "begin", "(I)V"⟩
abbrev cX10_copyFrom : ByteArray := prog_12_method_3_code
def yX10_copyFrom : MethodName := ⟨RX10, "copyFrom", "(LLockSimulator$World;)V"⟩
abbrev cX10_perform : ByteArray := prog_12_method_4_code
def yX10_perform : MethodName := ⟨RX10, "perform", "(IIII)I"⟩
abbrev cX10_hasThread : ByteArray := prog_12_method_5_code
def yX10_hasThread : MethodName := ⟨RX10, "hasThread", "(I)Z"⟩
abbrev cX10_runnerError : ByteArray := prog_12_method_6_code
def yX10_runnerError : MethodName := ⟨RX10, "runnerError", "(II)I"⟩
abbrev cX10_ownerError : ByteArray := prog_12_method_7_code
def yX10_ownerError : MethodName := ⟨RX10, "ownerError", "(II)I"⟩
abbrev cX10_enterObject : ByteArray := prog_12_method_8_code
def yX10_enterObject : MethodName := ⟨RX10, "enterObject", "(II)I"⟩
abbrev cX10_entryNeedsMonitor : ByteArray := prog_12_method_9_code
def yX10_entryNeedsMonitor : MethodName := ⟨RX10, "entryNeedsMonitor", "(ILLockSimulator$Lock;)Z"⟩
abbrev cX10_take : ByteArray := prog_12_method_10_code
def yX10_take : MethodName := ⟨RX10, "take", "(ILLockSimulator$Lock;)I"⟩
abbrev cX10_takeBiased : ByteArray := prog_12_method_11_code
def yX10_takeBiased : MethodName := ⟨RX10, "takeBiased", "(ILLockSimulator$Lock;)V"⟩
abbrev cX10_block : ByteArray := prog_12_method_12_code
def yX10_block : MethodName := ⟨RX10, "block", "(ILLockSimulator$Lock;)V"⟩
abbrev cX10_recover : ByteArray := prog_12_method_13_code
def yX10_recover : MethodName := ⟨RX10, "recover", "(LLockSimulator$Lock;)I"⟩
abbrev cX10_biasIsValid : ByteArray := prog_12_method_14_code
def yX10_biasIsValid : MethodName := ⟨RX10, "biasIsValid", "(LLockSimulator$Lock;)Z"⟩
abbrev cX10_revokeBias : ByteArray := prog_12_method_15_code
def yX10_revokeBias : MethodName := ⟨RX10, "revokeBias", "(LLockSimulator$Lock;)V"⟩
abbrev cX10_endBiasing : ByteArray := prog_12_method_16_code
def yX10_endBiasing : MethodName := ⟨RX10, "endBiasing", "(I)V"⟩
abbrev cX10_beginEpoch : ByteArray := prog_12_method_17_code
def yX10_beginEpoch : MethodName := ⟨RX10, "beginEpoch", "(I)V"⟩
abbrev cX10_monitorsInUse : ByteArray := prog_12_method_18_code
def yX10_monitorsInUse : MethodName := ⟨RX10, "monitorsInUse", "()I"⟩
abbrev cX10_monitorIsFree : ByteArray := prog_12_method_19_code
def yX10_monitorIsFree : MethodName := ⟨RX10, "monitorIsFree", "()Z"⟩
abbrev cX10_canInflate : ByteArray := prog_12_method_20_code
def yX10_canInflate : MethodName := ⟨RX10, "canInflate", "()Z"⟩
abbrev cX10_longestIdle : ByteArray := prog_12_method_21_code
def yX10_longestIdle : MethodName := ⟨RX10, "longestIdle", "()LLockSimulator$Lock;"⟩
abbrev cX10_inflate : ByteArray := prog_12_method_22_code
def yX10_inflate : MethodName := ⟨RX10, "inflate", "(LLockSimulator$Lock;)V"⟩
abbrev cX10_deflate : ByteArray := prog_12_method_23_code
def yX10_deflate : MethodName := ⟨RX10, "deflate", "(LLockSimulator$Lock;)V"⟩
abbrev cX10_exitObject : ByteArray := prog_12_method_24_code
def yX10_exitObject : MethodName := ⟨RX10, "exitObject", "(II)I"⟩
abbrev cX10_release : ByteArray := prog_12_method_25_code
def yX10_release : MethodName := ⟨RX10, "release", "(LLockSimulator$Lock;)V"⟩
abbrev cX10_giveToFirst : ByteArray := prog_12_method_26_code
def yX10_giveToFirst : MethodName := ⟨RX10, "giveToFirst", "(LLockSimulator$Lock;)V"⟩
abbrev cX10_awaitAt : ByteArray := prog_12_method_27_code
def yX10_awaitAt : MethodName := ⟨RX10, "awaitAt", "(III)I"⟩
abbrev cX10_beginWait : ByteArray := prog_12_method_28_code
def yX10_beginWait : MethodName := ⟨RX10, "beginWait", "(ILLockSimulator$Lock;I)V"⟩
abbrev cX10_notifyFirst : ByteArray := prog_12_method_29_code
def yX10_notifyFirst : MethodName := ⟨RX10, "notifyFirst", "(II)I"⟩
abbrev cX10_notifyEach : ByteArray := prog_12_method_30_code
def yX10_notifyEach : MethodName := ⟨RX10, "notifyEach", "(II)I"⟩
abbrev cX10_endWait : ByteArray := prog_12_method_31_code
def yX10_endWait : MethodName := ⟨RX10, "endWait", "(ILLockSimulator$Lock;I)V"⟩
abbrev cX10_interruptThread : ByteArray := prog_12_method_32_code
def yX10_interruptThread : MethodName := ⟨RX10, "interruptThread", "(I)I"⟩
abbrev cX10_endThread : ByteArray := prog_12_method_33_code
def yX10_endThread : MethodName := ⟨RX10, "endThread", "(I)I"⟩
abbrev cX10_startThread : ByteArray := prog_12_method_34_code
def yX10_startThread : MethodName := ⟨RX10, "startThread", "(I)I"⟩
abbrev cX10_hashOf : ByteArray := prog_12_method_35_code
def yX10_hashOf : MethodName := ⟨RX10, "hashOf", "(I)I"⟩
abbrev cX10_letPass : ByteArray := prog_12_method_36_code
def yX10_letPass : MethodName := ⟨RX10, "letPass", "(I)I"⟩
abbrev cX10_endOverdueWaits : ByteArray := prog_12_method_37_code
def yX10_endOverdueWaits : MethodName := ⟨RX10, "endOverdueWaits", "()V"⟩
abbrev cX10_wakeQueues : ByteArray := prog_12_method_38_code
def yX10_wakeQueues : MethodName := ⟨RX10, "wakeQueues", "()I"⟩
abbrev cX10_deflateOverdue : ByteArray := prog_12_method_39_code
def yX10_deflateOverdue : MethodName := ⟨RX10, "deflateOverdue", "()V"⟩
abbrev cX10_waitsForItself : ByteArray := prog_12_method_40_code
def yX10_waitsForItself : MethodName := ⟨RX10, "waitsForItself", "(I)Z"⟩
abbrev cX10_waitedFor : ByteArray := prog_12_method_41_code
def yX10_waitedFor : MethodName := ⟨RX10, "waitedFor", "(I)I"⟩
def RX11 : String := "LockSimulator"
def TX11 : u_T := fun k => match k with
  | 0 => ("LockSimulator", "world", "LLockSimulator$World;", true)
  | 1 => ("LockSimulator", "trial", "LLockSimulator$World;", true)
  | 2 => ("LockSimulator", "journal", "LLockSimulator$Journal;", true)
  | 3 => ("LockSimulator", "script", "LLockSimulator$Script;", true)
  | 4 => ("LockSimulator", "slots", "[LLockSimulator$Slot;", true)
  | _ => ("LockSimulator", "description", "Ljava/lang/StringBuilder;", true)
def tyX11 : Nat → FieldType := fun k => match k with
  | 0 => .object "LockSimulator$World"
  | 1 => .object "LockSimulator$World"
  | 2 => .object "LockSimulator$Journal"
  | 3 => .object "LockSimulator$Script"
  | 4 => .array (.object "LockSimulator$Slot")
  | _ => .object "java/lang/StringBuilder"
abbrev wsX110 : List Cond := u_ws RX11 TX11 6
theorem nmX11 : ∀ a, a < 6 → ∀ b, b < 6 → a ≠ b → (TX11 a).2.1 ≠ (TX11 b).2.1 := by decide +kernel
theorem tyX11_ok : ∀ k, k < 6 → parseFieldDescriptor (TX11 k).2.2.1 = some (tyX11 k) := by decide +kernel
abbrev cX11_init : ByteArray := prog_1_method_1_code
def yX11_init : MethodName := ⟨RX11, "<init>", "()V"⟩
abbrev cX11_reset : ByteArray := prog_1_method_2_code
def yX11_reset : MethodName := ⟨RX11, "reset", "(I)I"⟩
abbrev cX11_set : ByteArray := prog_1_method_3_code
def yX11_set : MethodName := ⟨RX11, "set", "(II)I"⟩
abbrev cX11_setting : ByteArray := prog_1_method_4_code
def yX11_setting : MethodName := ⟨RX11, "setting", "(I)I"⟩
abbrev cX11_enter : ByteArray := prog_1_method_5_code
def yX11_enter : MethodName := ⟨RX11, "enter", "(II)I"⟩
abbrev cX11_exit : ByteArray := prog_1_method_6_code
def yX11_exit : MethodName := ⟨RX11, "exit", "(II)I"⟩
abbrev cX11_await : ByteArray := prog_1_method_7_code
def yX11_await : MethodName := ⟨RX11, "await", "(III)I"⟩
abbrev cX11_signal : ByteArray := prog_1_method_8_code
def yX11_signal : MethodName := ⟨RX11, "signal", "(II)I"⟩
abbrev cX11_signalAll : ByteArray := prog_1_method_9_code
def yX11_signalAll : MethodName := ⟨RX11, "signalAll", "(II)I"⟩
abbrev cX11_interrupt : ByteArray := prog_1_method_10_code
def yX11_interrupt : MethodName := ⟨RX11, "interrupt", "(I)I"⟩
abbrev cX11_die : ByteArray := prog_1_method_11_code
def yX11_die : MethodName := ⟨RX11, "die", "(I)I"⟩
abbrev cX11_start : ByteArray := prog_1_method_12_code
def yX11_start : MethodName := ⟨RX11, "start", "(I)I"⟩
abbrev cX11_hash : ByteArray := prog_1_method_13_code
def yX11_hash : MethodName := ⟨RX11, "hash", "(I)I"⟩
abbrev cX11_tick : ByteArray := prog_1_method_14_code
def yX11_tick : MethodName := ⟨RX11, "tick", "(I)I"⟩
abbrev cX11_operate : ByteArray := prog_1_method_15_code
def yX11_operate : MethodName := ⟨RX11, "operate", "(IIII)I"⟩
abbrev cX11_isError : ByteArray := prog_1_method_16_code
def yX11_isError : MethodName := ⟨RX11, "isError", "(I)Z"⟩
abbrev cX11_threads : ByteArray := prog_1_method_17_code
def yX11_threads : MethodName := ⟨RX11, "threads", "()I"⟩
abbrev cX11_threadState : ByteArray := prog_1_method_18_code
def yX11_threadState : MethodName := ⟨RX11, "threadState", "(I)I"⟩
abbrev cX11_threadAt : ByteArray := prog_1_method_19_code
def yX11_threadAt : MethodName := ⟨RX11, "threadAt", "(I)I"⟩
abbrev cX11_held : ByteArray := prog_1_method_20_code
def yX11_held : MethodName := ⟨RX11, "held", "(I)I"⟩
abbrev cX11_waitEnd : ByteArray := prog_1_method_21_code
def yX11_waitEnd : MethodName := ⟨RX11, "waitEnd", "(I)I"⟩
abbrev cX11_deadlocked : ByteArray := prog_1_method_22_code
def yX11_deadlocked : MethodName := ⟨RX11, "deadlocked", "()I"⟩
abbrev cX11_lockState : ByteArray := prog_1_method_23_code
def yX11_lockState : MethodName := ⟨RX11, "lockState", "(I)I"⟩
abbrev cX11_owner : ByteArray := prog_1_method_24_code
def yX11_owner : MethodName := ⟨RX11, "owner", "(I)I"⟩
abbrev cX11_count : ByteArray := prog_1_method_25_code
def yX11_count : MethodName := ⟨RX11, "count", "(I)I"⟩
abbrev cX11_bias : ByteArray := prog_1_method_26_code
def yX11_bias : MethodName := ⟨RX11, "bias", "(I)I"⟩
abbrev cX11_queued : ByteArray := prog_1_method_27_code
def yX11_queued : MethodName := ⟨RX11, "queued", "(II)I"⟩
abbrev cX11_waiting : ByteArray := prog_1_method_28_code
def yX11_waiting : MethodName := ⟨RX11, "waiting", "(II)I"⟩
abbrev cX11_describe : ByteArray := prog_1_method_29_code
def yX11_describe : MethodName := ⟨RX11, "describe", "(II)I"⟩
abbrev cX11_isObject : ByteArray := prog_1_method_30_code
def yX11_isObject : MethodName := ⟨RX11, "isObject", "(I)Z"⟩
abbrev cX11_type : ByteArray := prog_1_method_31_code
def yX11_type : MethodName := ⟨RX11, "type", "(II)I"⟩
abbrev cX11_time : ByteArray := prog_1_method_32_code
def yX11_time : MethodName := ⟨RX11, "time", "()I"⟩
abbrev cX11_monitors : ByteArray := prog_1_method_33_code
def yX11_monitors : MethodName := ⟨RX11, "monitors", "()I"⟩
abbrev cX11_counted : ByteArray := prog_1_method_34_code
def yX11_counted : MethodName := ⟨RX11, "counted", "(I)I"⟩
abbrev cX11_cost : ByteArray := prog_1_method_35_code
def yX11_cost : MethodName := ⟨RX11, "cost", "()I"⟩
abbrev cX11_recorded : ByteArray := prog_1_method_36_code
def yX11_recorded : MethodName := ⟨RX11, "recorded", "()I"⟩
abbrev cX11_replayCost : ByteArray := prog_1_method_37_code
def yX11_replayCost : MethodName := ⟨RX11, "replayCost", "(II)I"⟩
abbrev cX11_bestValue : ByteArray := prog_1_method_38_code
def yX11_bestValue : MethodName := ⟨RX11, "bestValue", "(I)I"⟩
abbrev cX11_costWith : ByteArray := prog_1_method_39_code
def yX11_costWith : MethodName := ⟨RX11, "costWith", "(II)I"⟩
abbrev cX11_write : ByteArray := prog_1_method_40_code
def yX11_write : MethodName := ⟨RX11, "write", "(I)I"⟩
abbrev cX11_wipe : ByteArray := prog_1_method_41_code
def yX11_wipe : MethodName := ⟨RX11, "wipe", "()I"⟩
abbrev cX11_fault : ByteArray := prog_1_method_42_code
def yX11_fault : MethodName := ⟨RX11, "fault", "()I"⟩
abbrev cX11_run : ByteArray := prog_1_method_43_code
def yX11_run : MethodName := ⟨RX11, "run", "()I"⟩
abbrev cX11_save : ByteArray := prog_1_method_44_code
def yX11_save : MethodName := ⟨RX11, "save", "(I)I"⟩
abbrev cX11_restore : ByteArray := prog_1_method_45_code
def yX11_restore : MethodName := ⟨RX11, "restore", "(I)I"⟩
def RX12 : String := "LockSimulatorModel"
def TX12 : u_T := fun k => match k with
  | 0 => ("LockSimulatorModel", "w", "[I", true)
  | 1 => ("LockSimulatorModel", "aside", "[I", true)
  | 2 => ("LockSimulatorModel", "kept", "[I", true)
  | 3 => ("LockSimulatorModel", "slots", "[I", true)
  | 4 => ("LockSimulatorModel", "filled", "I", false)
  | 5 => ("LockSimulatorModel", "text", "[I", true)
  | 6 => ("LockSimulatorModel", "length", "I", false)
  | 7 => ("LockSimulatorModel", "made", "[I", true)
  | 8 => ("LockSimulatorModel", "many", "I", false)
  | 9 => ("LockSimulatorModel", "items", "[I", true)
  | 10 => ("LockSimulatorModel", "itemCount", "I", false)
  | _ => ("LockSimulatorModel", "at", "I", false)
def tyX12 : Nat → FieldType := fun k => match k with
  | 0 => .array .int
  | 1 => .array .int
  | 2 => .array .int
  | 3 => .array .int
  | 4 => .int
  | 5 => .array .int
  | 6 => .int
  | 7 => .array .int
  | 8 => .int
  | 9 => .array .int
  | 10 => .int
  | _ => .int
abbrev wsX120 : List Cond := u_ws RX12 TX12 12
theorem nmX12 : ∀ a, a < 12 → ∀ b, b < 12 → a ≠ b → (TX12 a).2.1 ≠ (TX12 b).2.1 := by decide +kernel
theorem tyX12_ok : ∀ k, k < 12 → parseFieldDescriptor (TX12 k).2.2.1 = some (tyX12 k) := by decide +kernel
abbrev cX12_init : ByteArray := prog_14_method_1_code
def yX12_init : MethodName := ⟨RX12, "<init>", "()V"⟩
abbrev cX12_isIn : ByteArray := prog_14_method_2_code
def yX12_isIn : MethodName := ⟨RX12, "isIn", "(III)Z"⟩
abbrev cX12_begin : ByteArray := prog_14_method_3_code
def yX12_begin : MethodName := ⟨RX12, "begin", "(I)V"⟩
abbrev cX12_isThread : ByteArray := prog_14_method_4_code
def yX12_isThread : MethodName := ⟨RX12, "isThread", "(I)Z"⟩
abbrev cX12_isObject : ByteArray := prog_14_method_5_code
def yX12_isObject : MethodName := ⟨RX12, "isObject", "(I)Z"⟩
abbrev cX12_reset : ByteArray := prog_14_method_6_code
def yX12_reset : MethodName := ⟨RX12, "reset", "(I)I"⟩
abbrev cX12_least : ByteArray := prog_14_method_7_code
def yX12_least : MethodName := ⟨RX12, "least", "(I)I"⟩
abbrev cX12_most : ByteArray := prog_14_method_8_code
def yX12_most : MethodName := ⟨RX12, "most", "(I)I"⟩
abbrev cX12_isValue : ByteArray := prog_14_method_9_code
def yX12_isValue : MethodName := ⟨RX12, "isValue", "(II)Z"⟩
abbrev cX12_set : ByteArray := prog_14_method_10_code
def yX12_set : MethodName := ⟨RX12, "set", "(II)I"⟩
abbrev cX12_setting : ByteArray := prog_14_method_11_code
def yX12_setting : MethodName := ⟨RX12, "setting", "(I)I"⟩
abbrev cX12_monitors : ByteArray := prog_14_method_12_code
def yX12_monitors : MethodName := ⟨RX12, "monitors", "()I"⟩
abbrev cX12_isHeld : ByteArray := prog_14_method_13_code
def yX12_isHeld : MethodName := ⟨RX12, "isHeld", "(I)Z"⟩
abbrev cX12_isIdle : ByteArray := prog_14_method_14_code
def yX12_isIdle : MethodName := ⟨RX12, "isIdle", "(I)Z"⟩
abbrev cX12_deflate : ByteArray := prog_14_method_15_code
def yX12_deflate : MethodName := ⟨RX12, "deflate", "(I)V"⟩
abbrev cX12_inflates : ByteArray := prog_14_method_16_code
def yX12_inflates : MethodName := ⟨RX12, "inflates", "(I)Z"⟩
abbrev cX12_queueUp : ByteArray := prog_14_method_17_code
def yX12_queueUp : MethodName := ⟨RX12, "queueUp", "(II)V"⟩
abbrev cX12_queueFirst : ByteArray := prog_14_method_18_code
def yX12_queueFirst : MethodName := ⟨RX12, "queueFirst", "(II)V"⟩
abbrev cX12_takeOut : ByteArray := prog_14_method_19_code
def yX12_takeOut : MethodName := ⟨RX12, "takeOut", "(III)V"⟩
abbrev cX12_endWait : ByteArray := prog_14_method_20_code
def yX12_endWait : MethodName := ⟨RX12, "endWait", "(IIZ)V"⟩
abbrev cX12_hold : ByteArray := prog_14_method_21_code
def yX12_hold : MethodName := ⟨RX12, "hold", "(III)V"⟩
abbrev cX12_acquire : ByteArray := prog_14_method_22_code
def yX12_acquire : MethodName := ⟨RX12, "acquire", "(I)V"⟩
abbrev cX12_release : ByteArray := prog_14_method_23_code
def yX12_release : MethodName := ⟨RX12, "release", "(I)V"⟩
abbrev cX12_record : ByteArray := prog_14_method_24_code
def yX12_record : MethodName := ⟨RX12, "record", "(IIII)V"⟩
abbrev cX12_isValid : ByteArray := prog_14_method_25_code
def yX12_isValid : MethodName := ⟨RX12, "isValid", "(I)Z"⟩
abbrev cX12_unbias : ByteArray := prog_14_method_26_code
def yX12_unbias : MethodName := ⟨RX12, "unbias", "(I)V"⟩
abbrev cX12_revoke : ByteArray := prog_14_method_27_code
def yX12_revoke : MethodName := ⟨RX12, "revoke", "(I)V"⟩
abbrev cX12_biased : ByteArray := prog_14_method_28_code
def yX12_biased : MethodName := ⟨RX12, "biased", "(IIZ)I"⟩
abbrev cX12_entered : ByteArray := prog_14_method_29_code
def yX12_entered : MethodName := ⟨RX12, "entered", "(II)I"⟩
abbrev cX12_entering : ByteArray := prog_14_method_30_code
def yX12_entering : MethodName := ⟨RX12, "entering", "(II)I"⟩
abbrev cX12_enter : ByteArray := prog_14_method_31_code
def yX12_enter : MethodName := ⟨RX12, "enter", "(II)I"⟩
abbrev cX12_forbidden : ByteArray := prog_14_method_32_code
def yX12_forbidden : MethodName := ⟨RX12, "forbidden", "(II)I"⟩
abbrev cX12_exit : ByteArray := prog_14_method_33_code
def yX12_exit : MethodName := ⟨RX12, "exit", "(II)I"⟩
abbrev cX12_await : ByteArray := prog_14_method_34_code
def yX12_await : MethodName := ⟨RX12, "await", "(III)I"⟩
abbrev cX12_signal : ByteArray := prog_14_method_35_code
def yX12_signal : MethodName := ⟨RX12, "signal", "(II)I"⟩
abbrev cX12_signalAll : ByteArray := prog_14_method_36_code
def yX12_signalAll : MethodName := ⟨RX12, "signalAll", "(II)I"⟩
abbrev cX12_interrupt : ByteArray := prog_14_method_37_code
def yX12_interrupt : MethodName := ⟨RX12, "interrupt", "(I)I"⟩
abbrev cX12_die : ByteArray := prog_14_method_38_code
def yX12_die : MethodName := ⟨RX12, "die", "(I)I"⟩
abbrev cX12_start : ByteArray := prog_14_method_39_code
def yX12_start : MethodName := ⟨RX12, "start", "(I)I"⟩
abbrev cX12_hash : ByteArray := prog_14_method_40_code
def yX12_hash : MethodName := ⟨RX12, "hash", "(I)I"⟩
abbrev cX12_tickOnce : ByteArray := prog_14_method_41_code
def yX12_tickOnce : MethodName := ⟨RX12, "tickOnce", "()V"⟩
abbrev cX12_tick : ByteArray := prog_14_method_42_code
def yX12_tick : MethodName := ⟨RX12, "tick", "(I)I"⟩
abbrev cX12_threads : ByteArray := prog_14_method_43_code
def yX12_threads : MethodName := ⟨RX12, "threads", "()I"⟩
abbrev cX12_threadState : ByteArray := prog_14_method_44_code
def yX12_threadState : MethodName := ⟨RX12, "threadState", "(I)I"⟩
abbrev cX12_threadAt : ByteArray := prog_14_method_45_code
def yX12_threadAt : MethodName := ⟨RX12, "threadAt", "(I)I"⟩
abbrev cX12_held : ByteArray := prog_14_method_46_code
def yX12_held : MethodName := ⟨RX12, "held", "(I)I"⟩
abbrev cX12_waitEnd : ByteArray := prog_14_method_47_code
def yX12_waitEnd : MethodName := ⟨RX12, "waitEnd", "(I)I"⟩
abbrev cX12_waitsFor : ByteArray := prog_14_method_48_code
def yX12_waitsFor : MethodName := ⟨RX12, "waitsFor", "(I)I"⟩
abbrev cX12_deadlocked : ByteArray := prog_14_method_49_code
def yX12_deadlocked : MethodName := ⟨RX12, "deadlocked", "()I"⟩
abbrev cX12_lockState : ByteArray := prog_14_method_50_code
def yX12_lockState : MethodName := ⟨RX12, "lockState", "(I)I"⟩
abbrev cX12_owner : ByteArray := prog_14_method_51_code
def yX12_owner : MethodName := ⟨RX12, "owner", "(I)I"⟩
abbrev cX12_count : ByteArray := prog_14_method_52_code
def yX12_count : MethodName := ⟨RX12, "count", "(I)I"⟩
abbrev cX12_bias : ByteArray := prog_14_method_53_code
def yX12_bias : MethodName := ⟨RX12, "bias", "(I)I"⟩
abbrev cX12_queued : ByteArray := prog_14_method_54_code
def yX12_queued : MethodName := ⟨RX12, "queued", "(II)I"⟩
abbrev cX12_waiting : ByteArray := prog_14_method_55_code
def yX12_waiting : MethodName := ⟨RX12, "waiting", "(II)I"⟩
abbrev cX12_sign : ByteArray := prog_14_method_56_code
def yX12_sign : MethodName := ⟨RX12, "sign", "(I)V"⟩
abbrev cX12_word : ByteArray := prog_14_method_57_code
def yX12_word : MethodName := ⟨RX12, "word", "(J)V"⟩
abbrev cX12_number : ByteArray := prog_14_method_58_code
def yX12_number : MethodName := ⟨RX12, "number", "(I)V"⟩
abbrev cX12_blank : ByteArray := prog_14_method_59_code
def yX12_blank : MethodName := ⟨RX12, "blank", "()V"⟩
abbrev cX12_lockWord : ByteArray := prog_14_method_61_code
def yX12_lockWord : MethodName := ⟨RX12, "lockWord", "(I)J"⟩
abbrev cX12_list : ByteArray := prog_14_method_62_code
def yX12_list : MethodName := ⟨RX12, "list", "(JII)V"⟩
abbrev cX12_makeText : ByteArray := prog_14_method_63_code
def yX12_makeText : MethodName := ⟨RX12, "makeText", "(I)V"⟩
abbrev cX12_describe : ByteArray := prog_14_method_64_code
def yX12_describe : MethodName := ⟨RX12, "describe", "(II)I"⟩
abbrev cX12_type : ByteArray := prog_14_method_65_code
def yX12_type : MethodName := ⟨RX12, "type", "(II)I"⟩
abbrev cX12_time : ByteArray := prog_14_method_66_code
def yX12_time : MethodName := ⟨RX12, "time", "()I"⟩
abbrev cX12_counted : ByteArray := prog_14_method_67_code
def yX12_counted : MethodName := ⟨RX12, "counted", "(I)I"⟩
abbrev cX12_cost : ByteArray := prog_14_method_68_code
def yX12_cost : MethodName := ⟨RX12, "cost", "()I"⟩
abbrev cX12_recorded : ByteArray := prog_14_method_69_code
def yX12_recorded : MethodName := ⟨RX12, "recorded", "()I"⟩
abbrev cX12_operate : ByteArray := prog_14_method_70_code
def yX12_operate : MethodName := ⟨RX12, "operate", "(IIII)I"⟩
abbrev cX12_replayed : ByteArray := prog_14_method_71_code
def yX12_replayed : MethodName := ⟨RX12, "replayed", "(II)I"⟩
abbrev cX12_replayCost : ByteArray := prog_14_method_72_code
def yX12_replayCost : MethodName := ⟨RX12, "replayCost", "(II)I"⟩
abbrev cX12_bestValue : ByteArray := prog_14_method_73_code
def yX12_bestValue : MethodName := ⟨RX12, "bestValue", "(I)I"⟩
abbrev cX12_write : ByteArray := prog_14_method_74_code
def yX12_write : MethodName := ⟨RX12, "write", "(I)I"⟩
abbrev cX12_wipe : ByteArray := prog_14_method_75_code
def yX12_wipe : MethodName := ⟨RX12, "wipe", "()I"⟩
abbrev cX12_operationWord : ByteArray := prog_14_method_76_code
def yX12_operationWord : MethodName := ⟨RX12, "operationWord", "(I)J"⟩
abbrev cX12_passes : ByteArray := prog_14_method_77_code
def yX12_passes : MethodName := ⟨RX12, "passes", "(I)Z"⟩
abbrev cX12_isDigit : ByteArray := prog_14_method_78_code
def yX12_isDigit : MethodName := ⟨RX12, "isDigit", "(I)Z"⟩
abbrev cX12_argument : ByteArray := prog_14_method_79_code
def yX12_argument : MethodName := ⟨RX12, "argument", "(I)I"⟩
abbrev cX12_sortOf : ByteArray := prog_14_method_80_code
def yX12_sortOf : MethodName := ⟨RX12, "sortOf", "(II)I"⟩
abbrev cX12_readsItem : ByteArray := prog_14_method_81_code
def yX12_readsItem : MethodName := ⟨RX12, "readsItem", "()Z"⟩
abbrev cX12_fault : ByteArray := prog_14_method_82_code
def yX12_fault : MethodName := ⟨RX12, "fault", "()I"⟩
abbrev cX12_run : ByteArray := prog_14_method_83_code
def yX12_run : MethodName := ⟨RX12, "run", "()I"⟩
abbrev cX12_save : ByteArray := prog_14_method_84_code
def yX12_save : MethodName := ⟨RX12, "save", "(I)I"⟩
abbrev cX12_restore : ByteArray := prog_14_method_85_code
def yX12_restore : MethodName := ⟨RX12, "restore", "(I)I"⟩
def RJ5 : String := "java/lang/AbstractStringBuilder"
def TJ5 : u_T := fun k => match k with
  | _ => ("", "", "", false)
def tyJ5 : Nat → FieldType := fun k => match k with
  | _ => .int
abbrev wsJ50 : List Cond := u_ws RJ5 TJ5 0
theorem nmJ5 : ∀ a, a < 0 → ∀ b, b < 0 → a ≠ b → (TJ5 a).2.1 ≠ (TJ5 b).2.1 := by decide +kernel
theorem tyJ5_ok : ∀ k, k < 0 → parseFieldDescriptor (TJ5 k).2.2.1 = some (tyJ5 k) := by decide +kernel
abbrev cJ5_init_d00df : ByteArray := prog_15_method_2_code
def yJ5_init_d00df : MethodName := ⟨RJ5, "<init>", "(I)V"⟩
abbrev cJ5_length_8abf5 : ByteArray := prog_15_method_6_code
def yJ5_length_8abf5 : MethodName := ⟨RJ5, "length", "()I"⟩
abbrev cJ5_ensureCapacityInternal_d00df : ByteArray := prog_15_method_9_code
def yJ5_ensureCapacityInternal_d00df : MethodName := ⟨RJ5, "ensureCapacityInternal", "(I)V"⟩
abbrev cJ5_newCapacity_0f7a4 : ByteArray := prog_15_method_10_code
def yJ5_newCapacity_0f7a4 : MethodName := ⟨RJ5, "newCapacity", "(I)I"⟩
abbrev cJ5_inflate_da8c8 : ByteArray := prog_15_method_11_code
def yJ5_inflate_da8c8 : MethodName := ⟨RJ5, "inflate", "()V"⟩
abbrev cJ5_setLength_d00df : ByteArray := prog_15_method_13_code
def yJ5_setLength_d00df : MethodName := ⟨RJ5, "setLength", "(I)V"⟩
abbrev cJ5_charAt_5068e : ByteArray := prog_15_method_14_code
def yJ5_charAt_5068e : MethodName := ⟨RJ5, "charAt", "(I)C"⟩
abbrev cJ5_append_cf1ce : ByteArray := prog_15_method_22_code
def yJ5_append_cf1ce : MethodName := ⟨RJ5, "append", "(Ljava/lang/String;)Ljava/lang/AbstractStringBuilder;"⟩
abbrev cJ5_appendNull_278bc : ByteArray := prog_15_method_26_code
def yJ5_appendNull_278bc : MethodName := ⟨RJ5, "appendNull", "()Ljava/lang/AbstractStringBuilder;"⟩
abbrev cJ5_append_c97b9 : ByteArray := prog_15_method_32_code
def yJ5_append_c97b9 : MethodName := ⟨RJ5, "append", "(I)Ljava/lang/AbstractStringBuilder;"⟩
abbrev cJ5_isLatin1_aae02 : ByteArray := prog_15_method_68_code
def yJ5_isLatin1_aae02 : MethodName := ⟨RJ5, "isLatin1", "()Z"⟩
abbrev cJ5_inflateIfNeededFor_a7421 : ByteArray := prog_15_method_71_code
def yJ5_inflateIfNeededFor_a7421 : MethodName := ⟨RJ5, "inflateIfNeededFor", "(Ljava/lang/String;)V"⟩
abbrev cJ5_putStringAt_47b60 : ByteArray := prog_15_method_73_code
def yJ5_putStringAt_47b60 : MethodName := ⟨RJ5, "putStringAt", "(ILjava/lang/String;)V"⟩
def RJ6 : String := "java/lang/Integer"
def TJ6 : u_T := fun k => match k with
  | _ => ("", "", "", false)
def tyJ6 : Nat → FieldType := fun k => match k with
  | _ => .int
abbrev wsJ60 : List Cond := u_ws RJ6 TJ6 0
theorem nmJ6 : ∀ a, a < 0 → ∀ b, b < 0 → a ≠ b → (TJ6 a).2.1 ≠ (TJ6 b).2.1 := by decide +kernel
theorem tyJ6_ok : ∀ k, k < 0 → parseFieldDescriptor (TJ6 k).2.2.1 = some (tyJ6 k) := by decide +kernel
abbrev cJ6_getChars_ba4f3 : ByteArray := prog_17_method_12_code
def yJ6_getChars_ba4f3 : MethodName := ⟨RJ6, "getChars", "(II[B)I"⟩
abbrev cJ6_stringSize_0f7a4 : ByteArray := prog_17_method_13_code
def yJ6_stringSize_0f7a4 : MethodName := ⟨RJ6, "stringSize", "(I)I"⟩
def RJ9 : String := "java/lang/Math"
def TJ9 : u_T := fun k => match k with
  | _ => ("", "", "", false)
def tyJ9 : Nat → FieldType := fun k => match k with
  | _ => .int
abbrev wsJ90 : List Cond := u_ws RJ9 TJ9 0
theorem nmJ9 : ∀ a, a < 0 → ∀ b, b < 0 → a ≠ b → (TJ9 a).2.1 ≠ (TJ9 b).2.1 := by decide +kernel
theorem tyJ9_ok : ∀ k, k < 0 → parseFieldDescriptor (TJ9 k).2.2.1 = some (tyJ9 k) := by decide +kernel
abbrev cJ9_max_7cf53 : ByteArray := prog_18_method_65_code
def yJ9_max_7cf53 : MethodName := ⟨RJ9, "max", "(II)I"⟩
abbrev cJ9_min_7cf53 : ByteArray := prog_18_method_69_code
def yJ9_min_7cf53 : MethodName := ⟨RJ9, "min", "(II)I"⟩
def RJ0 : String := "java/lang/String"
def TJ0 : u_T := fun k => match k with
  | _ => ("", "", "", false)
def tyJ0 : Nat → FieldType := fun k => match k with
  | _ => .int
abbrev wsJ00 : List Cond := u_ws RJ0 TJ0 0
theorem nmJ0 : ∀ a, a < 0 → ∀ b, b < 0 → a ≠ b → (TJ0 a).2.1 ≠ (TJ0 b).2.1 := by decide +kernel
theorem tyJ0_ok : ∀ k, k < 0 → parseFieldDescriptor (TJ0 k).2.2.1 = some (tyJ0 k) := by decide +kernel
abbrev cJ0_length_8abf5 : ByteArray := prog_20_method_54_code
def yJ0_length_8abf5 : MethodName := ⟨RJ0, "length", "()I"⟩
abbrev cJ0_charAt_5068e : ByteArray := prog_20_method_56_code
def yJ0_charAt_5068e : MethodName := ⟨RJ0, "charAt", "(I)C"⟩
abbrev cJ0_getBytes_840e7 : ByteArray := prog_20_method_147_code
def yJ0_getBytes_840e7 : MethodName := ⟨RJ0, "getBytes", "([BIB)V"⟩
abbrev cJ0_coder_7d493 : ByteArray := prog_20_method_152_code
def yJ0_coder_7d493 : MethodName := ⟨RJ0, "coder", "()B"⟩
abbrev cJ0_isLatin1_aae02 : ByteArray := prog_20_method_154_code
def yJ0_isLatin1_aae02 : MethodName := ⟨RJ0, "isLatin1", "()Z"⟩
abbrev cJ0_checkIndex_df160 : ByteArray := prog_20_method_155_code
def yJ0_checkIndex_df160 : MethodName := ⟨RJ0, "checkIndex", "(II)V"⟩
abbrev cJ0_checkBoundsOffCount_cabcc : ByteArray := prog_20_method_157_code
def yJ0_checkBoundsOffCount_cabcc : MethodName := ⟨RJ0, "checkBoundsOffCount", "(III)I"⟩
abbrev cJ0_checkBoundsBeginEnd_23922 : ByteArray := prog_20_method_158_code
def yJ0_checkBoundsBeginEnd_23922 : MethodName := ⟨RJ0, "checkBoundsBeginEnd", "(III)V"⟩
def RJ4 : String := "java/lang/StringBuilder"
def TJ4 : u_T := fun k => match k with
  | 0 => ("java/lang/AbstractStringBuilder", "value", "[B", false)
  | 1 => ("java/lang/AbstractStringBuilder", "coder", "B", false)
  | 2 => ("java/lang/AbstractStringBuilder", "maybeLatin1", "Z", false)
  | _ => ("java/lang/AbstractStringBuilder", "count", "I", false)
def tyJ4 : Nat → FieldType := fun k => match k with
  | 0 => .array .byte
  | 1 => .byte
  | 2 => .boolean
  | _ => .int
abbrev wsJ40 : List Cond := u_ws RJ4 TJ4 4
theorem nmJ4 : ∀ a, a < 4 → ∀ b, b < 4 → a ≠ b → (TJ4 a).2.1 ≠ (TJ4 b).2.1 := by decide +kernel
theorem tyJ4_ok : ∀ k, k < 4 → parseFieldDescriptor (TJ4 k).2.2.1 = some (tyJ4 k) := by decide +kernel
abbrev cJ4_init_da8c8 : ByteArray := prog_21_method_1_code
def yJ4_init_da8c8 : MethodName := ⟨RJ4, "<init>", "()V"⟩
abbrev cJ4_append_15ec4 : ByteArray := prog_21_method_7_code
def yJ4_append_15ec4 : MethodName := ⟨RJ4, "append", "(Ljava/lang/String;)Ljava/lang/StringBuilder;"⟩
abbrev cJ4_append_bf812 : ByteArray := prog_21_method_15_code
def yJ4_append_bf812 : MethodName := ⟨RJ4, "append", "(I)Ljava/lang/StringBuilder;"⟩
abbrev cJ4_charAt_5068e : ByteArray := prog_21_method_88_code
def yJ4_charAt_5068e : MethodName := ⟨RJ4, "charAt", "(I)C"⟩
abbrev cJ4_setLength_d00df : ByteArray := prog_21_method_89_code
def yJ4_setLength_d00df : MethodName := ⟨RJ4, "setLength", "(I)V"⟩
abbrev cJ4_length_8abf5 : ByteArray := prog_21_method_93_code
def yJ4_length_8abf5 : MethodName := ⟨RJ4, "length", "()I"⟩
def RJ1 : String := "java/lang/StringLatin1"
def TJ1 : u_T := fun k => match k with
  | _ => ("", "", "", false)
def tyJ1 : Nat → FieldType := fun k => match k with
  | _ => .int
abbrev wsJ10 : List Cond := u_ws RJ1 TJ1 0
theorem nmJ1 : ∀ a, a < 0 → ∀ b, b < 0 → a ≠ b → (TJ1 a).2.1 ≠ (TJ1 b).2.1 := by decide +kernel
theorem tyJ1_ok : ∀ k, k < 0 → parseFieldDescriptor (TJ1 k).2.2.1 = some (tyJ1 k) := by decide +kernel
abbrev cJ1_charAt_3b067 : ByteArray := prog_22_method_2_code
def yJ1_charAt_3b067 : MethodName := ⟨RJ1, "charAt", "([BI)C"⟩
abbrev cJ1_fillNull_b72d1 : ByteArray := prog_22_method_48_code
def yJ1_fillNull_b72d1 : MethodName := ⟨RJ1, "fillNull", "([BII)V"⟩
abbrev cJ1_inflate_0e8fd : ByteArray := prog_22_method_50_code
def yJ1_inflate_0e8fd : MethodName := ⟨RJ1, "inflate", "([BI[BII)V"⟩
def RJ2 : String := "java/lang/StringUTF16"
def TJ2 : u_T := fun k => match k with
  | _ => ("", "", "", false)
def tyJ2 : Nat → FieldType := fun k => match k with
  | _ => .int
abbrev wsJ20 : List Cond := u_ws RJ2 TJ2 0
theorem nmJ2 : ∀ a, a < 0 → ∀ b, b < 0 → a ≠ b → (TJ2 a).2.1 ≠ (TJ2 b).2.1 := by decide +kernel
theorem tyJ2_ok : ∀ k, k < 0 → parseFieldDescriptor (TJ2 k).2.2.1 = some (tyJ2 k) := by decide +kernel
abbrev cJ2_newBytesFor_77867 : ByteArray := prog_23_method_2_code
def yJ2_newBytesFor_77867 : MethodName := ⟨RJ2, "newBytesFor", "(I)[B"⟩
abbrev cJ2_newBytesLength_0f7a4 : ByteArray := prog_23_method_3_code
def yJ2_newBytesLength_0f7a4 : MethodName := ⟨RJ2, "newBytesLength", "(I)I"⟩
abbrev cJ2_putChar_b72d1 : ByteArray := prog_23_method_4_code
def yJ2_putChar_b72d1 : MethodName := ⟨RJ2, "putChar", "([BII)V"⟩
abbrev cJ2_getChar_3b067 : ByteArray := prog_23_method_5_code
def yJ2_getChar_3b067 : MethodName := ⟨RJ2, "getChar", "([BI)C"⟩
abbrev cJ2_length_9d52b : ByteArray := prog_23_method_6_code
def yJ2_length_9d52b : MethodName := ⟨RJ2, "length", "([B)I"⟩
abbrev cJ2_fillNull_b72d1 : ByteArray := prog_23_method_70_code
def yJ2_fillNull_b72d1 : MethodName := ⟨RJ2, "fillNull", "([BII)V"⟩
abbrev cJ2_getChars_46870 : ByteArray := prog_23_method_77_code
def yJ2_getChars_46870 : MethodName := ⟨RJ2, "getChars", "(III[B)I"⟩
abbrev cJ2_putCharsAt_cd4e5 : ByteArray := prog_23_method_81_code
def yJ2_putCharsAt_cd4e5 : MethodName := ⟨RJ2, "putCharsAt", "([BICCCC)I"⟩
abbrev cJ2_charAt_3b067 : ByteArray := prog_23_method_83_code
def yJ2_charAt_3b067 : MethodName := ⟨RJ2, "charAt", "([BI)C"⟩
abbrev cJ2_inflate_0e8fd : ByteArray := prog_23_method_86_code
def yJ2_inflate_0e8fd : MethodName := ⟨RJ2, "inflate", "([BI[BII)V"⟩
abbrev cJ2_getChars_ba4f3 : ByteArray := prog_23_method_89_code
def yJ2_getChars_ba4f3 : MethodName := ⟨RJ2, "getChars", "(II[B)I"⟩
abbrev cJ2_checkIndex_2214a : ByteArray := prog_23_method_91_code
def yJ2_checkIndex_2214a : MethodName := ⟨RJ2, "checkIndex", "(I[B)V"⟩
abbrev cJ2_checkBoundsBeginEnd_d044e : ByteArray := prog_23_method_93_code
def yJ2_checkBoundsBeginEnd_d044e : MethodName := ⟨RJ2, "checkBoundsBeginEnd", "(II[B)V"⟩
abbrev cJ2_checkBoundsOffCount_d044e : ByteArray := prog_23_method_94_code
def yJ2_checkBoundsOffCount_d044e : MethodName := ⟨RJ2, "checkBoundsOffCount", "(II[B)V"⟩
def RJ10 : String := "java/lang/System"
def TJ10 : u_T := fun k => match k with
  | _ => ("", "", "", false)
def tyJ10 : Nat → FieldType := fun k => match k with
  | _ => .int
abbrev wsJ100 : List Cond := u_ws RJ10 TJ10 0
theorem nmJ10 : ∀ a, a < 0 → ∀ b, b < 0 → a ≠ b → (TJ10 a).2.1 ≠ (TJ10 b).2.1 := by decide +kernel
theorem tyJ10_ok : ∀ k, k < 0 → parseFieldDescriptor (TJ10 k).2.2.1 = some (tyJ10 k) := by decide +kernel
def RJ7 : String := "java/util/Arrays"
def TJ7 : u_T := fun k => match k with
  | _ => ("", "", "", false)
def tyJ7 : Nat → FieldType := fun k => match k with
  | _ => .int
abbrev wsJ70 : List Cond := u_ws RJ7 TJ7 0
theorem nmJ7 : ∀ a, a < 0 → ∀ b, b < 0 → a ≠ b → (TJ7 a).2.1 ≠ (TJ7 b).2.1 := by decide +kernel
theorem tyJ7_ok : ∀ k, k < 0 → parseFieldDescriptor (TJ7 k).2.2.1 = some (tyJ7 k) := by decide +kernel
abbrev cJ7_rangeCheck_23922 : ByteArray := prog_25_method_30_code
def yJ7_rangeCheck_23922 : MethodName := ⟨RJ7, "rangeCheck", "(III)V"⟩
abbrev cJ7_fill_53178 : ByteArray := prog_25_method_103_code
def yJ7_fill_53178 : MethodName := ⟨RJ7, "fill", "([II)V"⟩
abbrev cJ7_fill_eb02e : ByteArray := prog_25_method_110_code
def yJ7_fill_eb02e : MethodName := ⟨RJ7, "fill", "([BIIB)V"⟩
abbrev cJ7_copyOf_9075b : ByteArray := prog_25_method_121_code
def yJ7_copyOf_9075b : MethodName := ⟨RJ7, "copyOf", "([BI)[B"⟩
def RJ8 : String := "jdk/internal/util/ArraysSupport"
def TJ8 : u_T := fun k => match k with
  | _ => ("", "", "", false)
def tyJ8 : Nat → FieldType := fun k => match k with
  | _ => .int
abbrev wsJ80 : List Cond := u_ws RJ8 TJ8 0
theorem nmJ8 : ∀ a, a < 0 → ∀ b, b < 0 → a ≠ b → (TJ8 a).2.1 ≠ (TJ8 b).2.1 := by decide +kernel
theorem tyJ8_ok : ∀ k, k < 0 → parseFieldDescriptor (TJ8 k).2.2.1 = some (tyJ8 k) := by decide +kernel
abbrev cJ8_newLength_cabcc : ByteArray := prog_26_method_27_code
def yJ8_newLength_cabcc : MethodName := ⟨RJ8, "newLength", "(III)I"⟩
abbrev cJ8_hugeLength_7cf53 : ByteArray := prog_26_method_28_code
def yJ8_hugeLength_7cf53 : MethodName := ⟨RJ8, "hugeLength", "(II)I"⟩
def RJ3 : String := "jdk/internal/util/Preconditions"
def TJ3 : u_T := fun k => match k with
  | _ => ("", "", "", false)
def tyJ3 : Nat → FieldType := fun k => match k with
  | _ => .int
abbrev wsJ30 : List Cond := u_ws RJ3 TJ3 0
theorem nmJ3 : ∀ a, a < 0 → ∀ b, b < 0 → a ≠ b → (TJ3 a).2.1 ≠ (TJ3 b).2.1 := by decide +kernel
theorem tyJ3_ok : ∀ k, k < 0 → parseFieldDescriptor (TJ3 k).2.2.1 = some (tyJ3 k) := by decide +kernel
abbrev cJ3_checkIndex_8e157 : ByteArray := prog_27_method_11_code
def yJ3_checkIndex_8e157 : MethodName := ⟨RJ3, "checkIndex", "(IILjava/util/function/BiFunction;)I"⟩
abbrev cJ3_checkFromToIndex_8c36e : ByteArray := prog_27_method_12_code
def yJ3_checkFromToIndex_8c36e : MethodName := ⟨RJ3, "checkFromToIndex", "(IIILjava/util/function/BiFunction;)I"⟩
abbrev cJ3_checkFromIndexSize_8c36e : ByteArray := prog_27_method_13_code
def yJ3_checkFromIndexSize_8c36e : MethodName := ⟨RJ3, "checkFromIndexSize", "(IIILjava/util/function/BiFunction;)I"⟩
def RL : String := "LockSimulatorLaw"
abbrev cL_law : ByteArray := code
def yL_law : MethodName := ⟨RL, "law", "([I)Z"⟩
abbrev vwCl : List vw_C := [(RJ4, TJ4, 4), (RX0, TX0, 5), (RX1, TX1, 3), (RX2, TX2, 2), (RX3, TX3, 12), (RX5, TX5, 4), (RX6, TX6, 1), (RX7, TX7, 3), (RX8, TX8, 6), (RX10, TX10, 8), (RX11, TX11, 6), (RX12, TX12, 12)]
end
section
theorem dX0_init_0 : decode cX0_init 0 = .ok (.aload_n 0, 1) := by decide +kernel
theorem dX0_init_1 : decode cX0_init 1 = .ok (.invokespecial 1, 3) := by decide +kernel
theorem dX0_init_4 : decode cX0_init 4 = .ok (.aload_n 0, 1) := by decide +kernel
theorem dX0_init_5 : decode cX0_init 5 = .ok (.bipush 60, 2) := by decide +kernel
theorem dX0_init_7 : decode cX0_init 7 = .ok (.newarray .int, 2) := by decide +kernel
theorem dX0_init_9 : decode cX0_init 9 = .ok (.putfield 9, 3) := by decide +kernel
theorem dX0_init_12 : decode cX0_init 12 = .ok (.aload_n 0, 1) := by decide +kernel
theorem dX0_init_13 : decode cX0_init 13 = .ok (.bipush 60, 2) := by decide +kernel
theorem dX0_init_15 : decode cX0_init 15 = .ok (.newarray .int, 2) := by decide +kernel
theorem dX0_init_17 : decode cX0_init 17 = .ok (.putfield 13, 3) := by decide +kernel
theorem dX0_init_20 : decode cX0_init 20 = .ok (.aload_n 0, 1) := by decide +kernel
theorem dX0_init_21 : decode cX0_init 21 = .ok (.bipush 60, 2) := by decide +kernel
theorem dX0_init_23 : decode cX0_init 23 = .ok (.newarray .int, 2) := by decide +kernel
theorem dX0_init_25 : decode cX0_init 25 = .ok (.putfield 16, 3) := by decide +kernel
theorem dX0_init_28 : decode cX0_init 28 = .ok (.aload_n 0, 1) := by decide +kernel
theorem dX0_init_29 : decode cX0_init 29 = .ok (.bipush 60, 2) := by decide +kernel
theorem dX0_init_31 : decode cX0_init 31 = .ok (.newarray .int, 2) := by decide +kernel
theorem dX0_init_33 : decode cX0_init 33 = .ok (.putfield 19, 3) := by decide +kernel
theorem dX0_init_36 : decode cX0_init 36 = .ok (.return_, 1) := by decide +kernel
theorem dX0_add_0 : decode cX0_add 0 = .ok (.aload_n 0, 1) := by decide +kernel
theorem dX0_add_1 : decode cX0_add 1 = .ok (.getfield 22, 3) := by decide +kernel
theorem dX0_add_4 : decode cX0_add 4 = .ok (.bipush 60, 2) := by decide +kernel
theorem dX0_add_6 : decode cX0_add 6 = .ok (.if_icmp .ge 54, 3) := by decide +kernel
theorem dX0_add_9 : decode cX0_add 9 = .ok (.aload_n 0, 1) := by decide +kernel
theorem dX0_add_10 : decode cX0_add 10 = .ok (.getfield 9, 3) := by decide +kernel
theorem dX0_add_13 : decode cX0_add 13 = .ok (.aload_n 0, 1) := by decide +kernel
theorem dX0_add_14 : decode cX0_add 14 = .ok (.getfield 22, 3) := by decide +kernel
theorem dX0_add_17 : decode cX0_add 17 = .ok (.iload_n 1, 1) := by decide +kernel
theorem dX0_add_18 : decode cX0_add 18 = .ok (.iastore, 1) := by decide +kernel
theorem dX0_add_19 : decode cX0_add 19 = .ok (.aload_n 0, 1) := by decide +kernel
theorem dX0_add_20 : decode cX0_add 20 = .ok (.getfield 13, 3) := by decide +kernel
theorem dX0_add_23 : decode cX0_add 23 = .ok (.aload_n 0, 1) := by decide +kernel
theorem dX0_add_24 : decode cX0_add 24 = .ok (.getfield 22, 3) := by decide +kernel
theorem dX0_add_27 : decode cX0_add 27 = .ok (.iload_n 2, 1) := by decide +kernel
theorem dX0_add_28 : decode cX0_add 28 = .ok (.iastore, 1) := by decide +kernel
theorem dX0_add_29 : decode cX0_add 29 = .ok (.aload_n 0, 1) := by decide +kernel
theorem dX0_add_30 : decode cX0_add 30 = .ok (.getfield 16, 3) := by decide +kernel
theorem dX0_add_33 : decode cX0_add 33 = .ok (.aload_n 0, 1) := by decide +kernel
theorem dX0_add_34 : decode cX0_add 34 = .ok (.getfield 22, 3) := by decide +kernel
theorem dX0_add_37 : decode cX0_add 37 = .ok (.iload_n 3, 1) := by decide +kernel
theorem dX0_add_38 : decode cX0_add 38 = .ok (.iastore, 1) := by decide +kernel
theorem dX0_add_39 : decode cX0_add 39 = .ok (.aload_n 0, 1) := by decide +kernel
theorem dX0_add_40 : decode cX0_add 40 = .ok (.getfield 19, 3) := by decide +kernel
theorem dX0_add_43 : decode cX0_add 43 = .ok (.aload_n 0, 1) := by decide +kernel
theorem dX0_add_44 : decode cX0_add 44 = .ok (.getfield 22, 3) := by decide +kernel
theorem dX0_add_47 : decode cX0_add 47 = .ok (.iload 4, 2) := by decide +kernel
theorem dX0_add_49 : decode cX0_add 49 = .ok (.iastore, 1) := by decide +kernel
theorem dX0_add_50 : decode cX0_add 50 = .ok (.aload_n 0, 1) := by decide +kernel
theorem dX0_add_51 : decode cX0_add 51 = .ok (.dup, 1) := by decide +kernel
theorem dX0_add_52 : decode cX0_add 52 = .ok (.getfield 22, 3) := by decide +kernel
theorem dX0_add_55 : decode cX0_add 55 = .ok (.iconst 1, 1) := by decide +kernel
theorem dX0_add_56 : decode cX0_add 56 = .ok (.iadd, 1) := by decide +kernel
theorem dX0_add_57 : decode cX0_add 57 = .ok (.putfield 22, 3) := by decide +kernel
theorem dX0_add_60 : decode cX0_add 60 = .ok (.return_, 1) := by decide +kernel
theorem dX0_clear_0 : decode cX0_clear 0 = .ok (.aload_n 0, 1) := by decide +kernel
theorem dX0_clear_1 : decode cX0_clear 1 = .ok (.iconst 0, 1) := by decide +kernel
theorem dX0_clear_2 : decode cX0_clear 2 = .ok (.putfield 22, 3) := by decide +kernel
theorem dX0_clear_5 : decode cX0_clear 5 = .ok (.return_, 1) := by decide +kernel
theorem dX0_copyFrom_0 : decode cX0_copyFrom 0 = .ok (.aload_n 1, 1) := by decide +kernel
theorem dX0_copyFrom_1 : decode cX0_copyFrom 1 = .ok (.getfield 9, 3) := by decide +kernel
theorem dX0_copyFrom_4 : decode cX0_copyFrom 4 = .ok (.iconst 0, 1) := by decide +kernel
theorem dX0_copyFrom_5 : decode cX0_copyFrom 5 = .ok (.aload_n 0, 1) := by decide +kernel
theorem dX0_copyFrom_6 : decode cX0_copyFrom 6 = .ok (.getfield 9, 3) := by decide +kernel
theorem dX0_copyFrom_9 : decode cX0_copyFrom 9 = .ok (.iconst 0, 1) := by decide +kernel
theorem dX0_copyFrom_10 : decode cX0_copyFrom 10 = .ok (.bipush 60, 2) := by decide +kernel
theorem dX0_copyFrom_12 : decode cX0_copyFrom 12 = .ok (.invokestatic 26, 3) := by decide +kernel
theorem dX0_copyFrom_15 : decode cX0_copyFrom 15 = .ok (.aload_n 1, 1) := by decide +kernel
theorem dX0_copyFrom_16 : decode cX0_copyFrom 16 = .ok (.getfield 13, 3) := by decide +kernel
theorem dX0_copyFrom_19 : decode cX0_copyFrom 19 = .ok (.iconst 0, 1) := by decide +kernel
theorem dX0_copyFrom_20 : decode cX0_copyFrom 20 = .ok (.aload_n 0, 1) := by decide +kernel
theorem dX0_copyFrom_21 : decode cX0_copyFrom 21 = .ok (.getfield 13, 3) := by decide +kernel
theorem dX0_copyFrom_24 : decode cX0_copyFrom 24 = .ok (.iconst 0, 1) := by decide +kernel
theorem dX0_copyFrom_25 : decode cX0_copyFrom 25 = .ok (.bipush 60, 2) := by decide +kernel
theorem dX0_copyFrom_27 : decode cX0_copyFrom 27 = .ok (.invokestatic 26, 3) := by decide +kernel
theorem dX0_copyFrom_30 : decode cX0_copyFrom 30 = .ok (.aload_n 1, 1) := by decide +kernel
theorem dX0_copyFrom_31 : decode cX0_copyFrom 31 = .ok (.getfield 16, 3) := by decide +kernel
theorem dX0_copyFrom_34 : decode cX0_copyFrom 34 = .ok (.iconst 0, 1) := by decide +kernel
theorem dX0_copyFrom_35 : decode cX0_copyFrom 35 = .ok (.aload_n 0, 1) := by decide +kernel
theorem dX0_copyFrom_36 : decode cX0_copyFrom 36 = .ok (.getfield 16, 3) := by decide +kernel
theorem dX0_copyFrom_39 : decode cX0_copyFrom 39 = .ok (.iconst 0, 1) := by decide +kernel
theorem dX0_copyFrom_40 : decode cX0_copyFrom 40 = .ok (.bipush 60, 2) := by decide +kernel
theorem dX0_copyFrom_42 : decode cX0_copyFrom 42 = .ok (.invokestatic 26, 3) := by decide +kernel
theorem dX0_copyFrom_45 : decode cX0_copyFrom 45 = .ok (.aload_n 1, 1) := by decide +kernel
theorem dX0_copyFrom_46 : decode cX0_copyFrom 46 = .ok (.getfield 19, 3) := by decide +kernel
theorem dX0_copyFrom_49 : decode cX0_copyFrom 49 = .ok (.iconst 0, 1) := by decide +kernel
theorem dX0_copyFrom_50 : decode cX0_copyFrom 50 = .ok (.aload_n 0, 1) := by decide +kernel
theorem dX0_copyFrom_51 : decode cX0_copyFrom 51 = .ok (.getfield 19, 3) := by decide +kernel
theorem dX0_copyFrom_54 : decode cX0_copyFrom 54 = .ok (.iconst 0, 1) := by decide +kernel
theorem dX0_copyFrom_55 : decode cX0_copyFrom 55 = .ok (.bipush 60, 2) := by decide +kernel
theorem dX0_copyFrom_57 : decode cX0_copyFrom 57 = .ok (.invokestatic 26, 3) := by decide +kernel
theorem dX0_copyFrom_60 : decode cX0_copyFrom 60 = .ok (.aload_n 0, 1) := by decide +kernel
theorem dX0_copyFrom_61 : decode cX0_copyFrom 61 = .ok (.aload_n 1, 1) := by decide +kernel
theorem dX0_copyFrom_62 : decode cX0_copyFrom 62 = .ok (.getfield 22, 3) := by decide +kernel
theorem dX0_copyFrom_65 : decode cX0_copyFrom 65 = .ok (.putfield 22, 3) := by decide +kernel
theorem dX0_copyFrom_68 : decode cX0_copyFrom 68 = .ok (.return_, 1) := by decide +kernel
theorem dX1_init_0 : decode cX1_init 0 = .ok (.aload_n 0, 1) := by decide +kernel
theorem dX1_init_1 : decode cX1_init 1 = .ok (.invokespecial 1, 3) := by decide +kernel
theorem dX1_init_4 : decode cX1_init 4 = .ok (.return_, 1) := by decide +kernel
theorem dX1_clear_0 : decode cX1_clear 0 = .ok (.aload_n 0, 1) := by decide +kernel
theorem dX1_clear_1 : decode cX1_clear 1 = .ok (.iconst 0, 1) := by decide +kernel
theorem dX1_clear_2 : decode cX1_clear 2 = .ok (.putfield 7, 3) := by decide +kernel
theorem dX1_clear_5 : decode cX1_clear 5 = .ok (.aload_n 0, 1) := by decide +kernel
theorem dX1_clear_6 : decode cX1_clear 6 = .ok (.iconst 0, 1) := by decide +kernel
theorem dX1_clear_7 : decode cX1_clear 7 = .ok (.putfield 13, 3) := by decide +kernel
theorem dX1_clear_10 : decode cX1_clear 10 = .ok (.aload_n 0, 1) := by decide +kernel
theorem dX1_clear_11 : decode cX1_clear 11 = .ok (.iconst 1, 1) := by decide +kernel
theorem dX1_clear_12 : decode cX1_clear 12 = .ok (.putfield 16, 3) := by decide +kernel
theorem dX1_clear_15 : decode cX1_clear 15 = .ok (.return_, 1) := by decide +kernel
theorem dX1_copyFrom_0 : decode cX1_copyFrom 0 = .ok (.aload_n 0, 1) := by decide +kernel
theorem dX1_copyFrom_1 : decode cX1_copyFrom 1 = .ok (.aload_n 1, 1) := by decide +kernel
theorem dX1_copyFrom_2 : decode cX1_copyFrom 2 = .ok (.getfield 7, 3) := by decide +kernel
theorem dX1_copyFrom_5 : decode cX1_copyFrom 5 = .ok (.putfield 7, 3) := by decide +kernel
theorem dX1_copyFrom_8 : decode cX1_copyFrom 8 = .ok (.aload_n 0, 1) := by decide +kernel
theorem dX1_copyFrom_9 : decode cX1_copyFrom 9 = .ok (.aload_n 1, 1) := by decide +kernel
theorem dX1_copyFrom_10 : decode cX1_copyFrom 10 = .ok (.getfield 13, 3) := by decide +kernel
theorem dX1_copyFrom_13 : decode cX1_copyFrom 13 = .ok (.putfield 13, 3) := by decide +kernel
theorem dX1_copyFrom_16 : decode cX1_copyFrom 16 = .ok (.aload_n 0, 1) := by decide +kernel
theorem dX1_copyFrom_17 : decode cX1_copyFrom 17 = .ok (.aload_n 1, 1) := by decide +kernel
theorem dX1_copyFrom_18 : decode cX1_copyFrom 18 = .ok (.getfield 16, 3) := by decide +kernel
theorem dX1_copyFrom_21 : decode cX1_copyFrom 21 = .ok (.putfield 16, 3) := by decide +kernel
theorem dX1_copyFrom_24 : decode cX1_copyFrom 24 = .ok (.return_, 1) := by decide +kernel
theorem dX2_init_0 : decode cX2_init 0 = .ok (.aload_n 0, 1) := by decide +kernel
theorem dX2_init_1 : decode cX2_init 1 = .ok (.invokespecial 3, 3) := by decide +kernel
theorem dX2_init_4 : decode cX2_init 4 = .ok (.aload_n 0, 1) := by decide +kernel
theorem dX2_init_5 : decode cX2_init 5 = .ok (.bipush 6, 2) := by decide +kernel
theorem dX2_init_7 : decode cX2_init 7 = .ok (.newarray .int, 2) := by decide +kernel
theorem dX2_init_9 : decode cX2_init 9 = .ok (.putfield 9, 3) := by decide +kernel
theorem dX2_init_12 : decode cX2_init 12 = .ok (.return_, 1) := by decide +kernel
theorem dX2_isEmpty_0 : decode cX2_isEmpty 0 = .ok (.aload_n 0, 1) := by decide +kernel
theorem dX2_isEmpty_1 : decode cX2_isEmpty 1 = .ok (.getfield 15, 3) := by decide +kernel
theorem dX2_isEmpty_4 : decode cX2_isEmpty 4 = .ok (.ifCond .ne 7, 3) := by decide +kernel
theorem dX2_isEmpty_7 : decode cX2_isEmpty 7 = .ok (.iconst 1, 1) := by decide +kernel
theorem dX2_isEmpty_8 : decode cX2_isEmpty 8 = .ok (.goto 4, 3) := by decide +kernel
theorem dX2_isEmpty_11 : decode cX2_isEmpty 11 = .ok (.iconst 0, 1) := by decide +kernel
theorem dX2_isEmpty_12 : decode cX2_isEmpty 12 = .ok (.ireturn, 1) := by decide +kernel
theorem dX2_at_0 : decode cX2_at 0 = .ok (.iload_n 1, 1) := by decide +kernel
theorem dX2_at_1 : decode cX2_at 1 = .ok (.ifCond .lt 20, 3) := by decide +kernel
theorem dX2_at_4 : decode cX2_at 4 = .ok (.iload_n 1, 1) := by decide +kernel
theorem dX2_at_5 : decode cX2_at 5 = .ok (.aload_n 0, 1) := by decide +kernel
theorem dX2_at_6 : decode cX2_at 6 = .ok (.getfield 15, 3) := by decide +kernel
theorem dX2_at_9 : decode cX2_at 9 = .ok (.if_icmp .ge 12, 3) := by decide +kernel
theorem dX2_at_12 : decode cX2_at 12 = .ok (.aload_n 0, 1) := by decide +kernel
theorem dX2_at_13 : decode cX2_at 13 = .ok (.getfield 9, 3) := by decide +kernel
theorem dX2_at_16 : decode cX2_at 16 = .ok (.iload_n 1, 1) := by decide +kernel
theorem dX2_at_17 : decode cX2_at 17 = .ok (.iaload, 1) := by decide +kernel
theorem dX2_at_18 : decode cX2_at 18 = .ok (.goto 5, 3) := by decide +kernel
theorem dX2_at_21 : decode cX2_at 21 = .ok (.bipush (-8), 2) := by decide +kernel
theorem dX2_at_23 : decode cX2_at 23 = .ok (.ireturn, 1) := by decide +kernel
theorem dX2_append_0 : decode cX2_append 0 = .ok (.aload_n 0, 1) := by decide +kernel
theorem dX2_append_1 : decode cX2_append 1 = .ok (.getfield 15, 3) := by decide +kernel
theorem dX2_append_4 : decode cX2_append 4 = .ok (.bipush 6, 2) := by decide +kernel
theorem dX2_append_6 : decode cX2_append 6 = .ok (.if_icmp .ge 23, 3) := by decide +kernel
theorem dX2_append_9 : decode cX2_append 9 = .ok (.aload_n 0, 1) := by decide +kernel
theorem dX2_append_10 : decode cX2_append 10 = .ok (.getfield 9, 3) := by decide +kernel
theorem dX2_append_13 : decode cX2_append 13 = .ok (.aload_n 0, 1) := by decide +kernel
theorem dX2_append_14 : decode cX2_append 14 = .ok (.getfield 15, 3) := by decide +kernel
theorem dX2_append_17 : decode cX2_append 17 = .ok (.iload_n 1, 1) := by decide +kernel
theorem dX2_append_18 : decode cX2_append 18 = .ok (.iastore, 1) := by decide +kernel
theorem dX2_append_19 : decode cX2_append 19 = .ok (.aload_n 0, 1) := by decide +kernel
theorem dX2_append_20 : decode cX2_append 20 = .ok (.dup, 1) := by decide +kernel
theorem dX2_append_21 : decode cX2_append 21 = .ok (.getfield 15, 3) := by decide +kernel
theorem dX2_append_24 : decode cX2_append 24 = .ok (.iconst 1, 1) := by decide +kernel
theorem dX2_append_25 : decode cX2_append 25 = .ok (.iadd, 1) := by decide +kernel
theorem dX2_append_26 : decode cX2_append 26 = .ok (.putfield 15, 3) := by decide +kernel
theorem dX2_append_29 : decode cX2_append 29 = .ok (.return_, 1) := by decide +kernel
theorem dX2_putFirst_0 : decode cX2_putFirst 0 = .ok (.aload_n 0, 1) := by decide +kernel
theorem dX2_putFirst_1 : decode cX2_putFirst 1 = .ok (.getfield 15, 3) := by decide +kernel
theorem dX2_putFirst_4 : decode cX2_putFirst 4 = .ok (.bipush 6, 2) := by decide +kernel
theorem dX2_putFirst_6 : decode cX2_putFirst 6 = .ok (.if_icmp .ge 49, 3) := by decide +kernel
theorem dX2_putFirst_9 : decode cX2_putFirst 9 = .ok (.aload_n 0, 1) := by decide +kernel
theorem dX2_putFirst_10 : decode cX2_putFirst 10 = .ok (.getfield 15, 3) := by decide +kernel
theorem dX2_putFirst_13 : decode cX2_putFirst 13 = .ok (.istore_n 2, 1) := by decide +kernel
theorem dX2_putFirst_14 : decode cX2_putFirst 14 = .ok (.iload_n 2, 1) := by decide +kernel
theorem dX2_putFirst_15 : decode cX2_putFirst 15 = .ok (.ifCond .le 23, 3) := by decide +kernel
theorem dX2_putFirst_18 : decode cX2_putFirst 18 = .ok (.aload_n 0, 1) := by decide +kernel
theorem dX2_putFirst_19 : decode cX2_putFirst 19 = .ok (.getfield 9, 3) := by decide +kernel
theorem dX2_putFirst_22 : decode cX2_putFirst 22 = .ok (.iload_n 2, 1) := by decide +kernel
theorem dX2_putFirst_23 : decode cX2_putFirst 23 = .ok (.aload_n 0, 1) := by decide +kernel
theorem dX2_putFirst_24 : decode cX2_putFirst 24 = .ok (.getfield 9, 3) := by decide +kernel
theorem dX2_putFirst_27 : decode cX2_putFirst 27 = .ok (.iload_n 2, 1) := by decide +kernel
theorem dX2_putFirst_28 : decode cX2_putFirst 28 = .ok (.iconst 1, 1) := by decide +kernel
theorem dX2_putFirst_29 : decode cX2_putFirst 29 = .ok (.isub, 1) := by decide +kernel
theorem dX2_putFirst_30 : decode cX2_putFirst 30 = .ok (.iaload, 1) := by decide +kernel
theorem dX2_putFirst_31 : decode cX2_putFirst 31 = .ok (.iastore, 1) := by decide +kernel
theorem dX2_putFirst_32 : decode cX2_putFirst 32 = .ok (.iinc 2 (-1), 3) := by decide +kernel
theorem dX2_putFirst_35 : decode cX2_putFirst 35 = .ok (.goto (-21), 3) := by decide +kernel
theorem dX2_putFirst_38 : decode cX2_putFirst 38 = .ok (.aload_n 0, 1) := by decide +kernel
theorem dX2_putFirst_39 : decode cX2_putFirst 39 = .ok (.getfield 9, 3) := by decide +kernel
theorem dX2_putFirst_42 : decode cX2_putFirst 42 = .ok (.iconst 0, 1) := by decide +kernel
theorem dX2_putFirst_43 : decode cX2_putFirst 43 = .ok (.iload_n 1, 1) := by decide +kernel
theorem dX2_putFirst_44 : decode cX2_putFirst 44 = .ok (.iastore, 1) := by decide +kernel
theorem dX2_putFirst_45 : decode cX2_putFirst 45 = .ok (.aload_n 0, 1) := by decide +kernel
theorem dX2_putFirst_46 : decode cX2_putFirst 46 = .ok (.dup, 1) := by decide +kernel
theorem dX2_putFirst_47 : decode cX2_putFirst 47 = .ok (.getfield 15, 3) := by decide +kernel
theorem dX2_putFirst_50 : decode cX2_putFirst 50 = .ok (.iconst 1, 1) := by decide +kernel
theorem dX2_putFirst_51 : decode cX2_putFirst 51 = .ok (.iadd, 1) := by decide +kernel
theorem dX2_putFirst_52 : decode cX2_putFirst 52 = .ok (.putfield 15, 3) := by decide +kernel
theorem dX2_putFirst_55 : decode cX2_putFirst 55 = .ok (.return_, 1) := by decide +kernel
theorem dX2_drop_0 : decode cX2_drop 0 = .ok (.iconst 0, 1) := by decide +kernel
theorem dX2_drop_1 : decode cX2_drop 1 = .ok (.istore_n 2, 1) := by decide +kernel
theorem dX2_drop_2 : decode cX2_drop 2 = .ok (.iconst 0, 1) := by decide +kernel
theorem dX2_drop_3 : decode cX2_drop 3 = .ok (.istore_n 3, 1) := by decide +kernel
theorem dX2_drop_4 : decode cX2_drop 4 = .ok (.iload_n 3, 1) := by decide +kernel
theorem dX2_drop_5 : decode cX2_drop 5 = .ok (.aload_n 0, 1) := by decide +kernel
theorem dX2_drop_6 : decode cX2_drop 6 = .ok (.getfield 15, 3) := by decide +kernel
theorem dX2_drop_9 : decode cX2_drop 9 = .ok (.if_icmp .ge 34, 3) := by decide +kernel
theorem dX2_drop_12 : decode cX2_drop 12 = .ok (.aload_n 0, 1) := by decide +kernel
theorem dX2_drop_13 : decode cX2_drop 13 = .ok (.getfield 9, 3) := by decide +kernel
theorem dX2_drop_16 : decode cX2_drop 16 = .ok (.iload_n 3, 1) := by decide +kernel
theorem dX2_drop_17 : decode cX2_drop 17 = .ok (.iaload, 1) := by decide +kernel
theorem dX2_drop_18 : decode cX2_drop 18 = .ok (.iload_n 1, 1) := by decide +kernel
theorem dX2_drop_19 : decode cX2_drop 19 = .ok (.if_icmp .eq 18, 3) := by decide +kernel
theorem dX2_drop_22 : decode cX2_drop 22 = .ok (.aload_n 0, 1) := by decide +kernel
theorem dX2_drop_23 : decode cX2_drop 23 = .ok (.getfield 9, 3) := by decide +kernel
theorem dX2_drop_26 : decode cX2_drop 26 = .ok (.iload_n 2, 1) := by decide +kernel
theorem dX2_drop_27 : decode cX2_drop 27 = .ok (.aload_n 0, 1) := by decide +kernel
theorem dX2_drop_28 : decode cX2_drop 28 = .ok (.getfield 9, 3) := by decide +kernel
theorem dX2_drop_31 : decode cX2_drop 31 = .ok (.iload_n 3, 1) := by decide +kernel
theorem dX2_drop_32 : decode cX2_drop 32 = .ok (.iaload, 1) := by decide +kernel
theorem dX2_drop_33 : decode cX2_drop 33 = .ok (.iastore, 1) := by decide +kernel
theorem dX2_drop_34 : decode cX2_drop 34 = .ok (.iinc 2 1, 3) := by decide +kernel
theorem dX2_drop_37 : decode cX2_drop 37 = .ok (.iinc 3 1, 3) := by decide +kernel
theorem dX2_drop_40 : decode cX2_drop 40 = .ok (.goto (-36), 3) := by decide +kernel
theorem dX2_drop_43 : decode cX2_drop 43 = .ok (.aload_n 0, 1) := by decide +kernel
theorem dX2_drop_44 : decode cX2_drop 44 = .ok (.iload_n 2, 1) := by decide +kernel
theorem dX2_drop_45 : decode cX2_drop 45 = .ok (.putfield 15, 3) := by decide +kernel
theorem dX2_drop_48 : decode cX2_drop 48 = .ok (.return_, 1) := by decide +kernel
theorem dX2_clear_0 : decode cX2_clear 0 = .ok (.aload_n 0, 1) := by decide +kernel
theorem dX2_clear_1 : decode cX2_clear 1 = .ok (.iconst 0, 1) := by decide +kernel
theorem dX2_clear_2 : decode cX2_clear 2 = .ok (.putfield 15, 3) := by decide +kernel
theorem dX2_clear_5 : decode cX2_clear 5 = .ok (.return_, 1) := by decide +kernel
theorem dX2_putMembers_0 : decode cX2_putMembers 0 = .ok (.iconst 0, 1) := by decide +kernel
theorem dX2_putMembers_1 : decode cX2_putMembers 1 = .ok (.istore_n 2, 1) := by decide +kernel
theorem dX2_putMembers_2 : decode cX2_putMembers 2 = .ok (.iload_n 2, 1) := by decide +kernel
theorem dX2_putMembers_3 : decode cX2_putMembers 3 = .ok (.aload_n 0, 1) := by decide +kernel
theorem dX2_putMembers_4 : decode cX2_putMembers 4 = .ok (.getfield 15, 3) := by decide +kernel
theorem dX2_putMembers_7 : decode cX2_putMembers 7 = .ok (.if_icmp .ge 20, 3) := by decide +kernel
theorem dX2_putMembers_10 : decode cX2_putMembers 10 = .ok (.aload_n 1, 1) := by decide +kernel
theorem dX2_putMembers_11 : decode cX2_putMembers 11 = .ok (.aload_n 0, 1) := by decide +kernel
theorem dX2_putMembers_12 : decode cX2_putMembers 12 = .ok (.getfield 9, 3) := by decide +kernel
theorem dX2_putMembers_15 : decode cX2_putMembers 15 = .ok (.iload_n 2, 1) := by decide +kernel
theorem dX2_putMembers_16 : decode cX2_putMembers 16 = .ok (.iaload, 1) := by decide +kernel
theorem dX2_putMembers_17 : decode cX2_putMembers 17 = .ok (.invokevirtual 19, 3) := by decide +kernel
theorem dX2_putMembers_20 : decode cX2_putMembers 20 = .ok (.pop, 1) := by decide +kernel
theorem dX2_putMembers_21 : decode cX2_putMembers 21 = .ok (.iinc 2 1, 3) := by decide +kernel
theorem dX2_putMembers_24 : decode cX2_putMembers 24 = .ok (.goto (-22), 3) := by decide +kernel
theorem dX2_putMembers_27 : decode cX2_putMembers 27 = .ok (.return_, 1) := by decide +kernel
theorem dX2_copyFrom_0 : decode cX2_copyFrom 0 = .ok (.aload_n 1, 1) := by decide +kernel
theorem dX2_copyFrom_1 : decode cX2_copyFrom 1 = .ok (.getfield 9, 3) := by decide +kernel
theorem dX2_copyFrom_4 : decode cX2_copyFrom 4 = .ok (.iconst 0, 1) := by decide +kernel
theorem dX2_copyFrom_5 : decode cX2_copyFrom 5 = .ok (.aload_n 0, 1) := by decide +kernel
theorem dX2_copyFrom_6 : decode cX2_copyFrom 6 = .ok (.getfield 9, 3) := by decide +kernel
theorem dX2_copyFrom_9 : decode cX2_copyFrom 9 = .ok (.iconst 0, 1) := by decide +kernel
theorem dX2_copyFrom_10 : decode cX2_copyFrom 10 = .ok (.bipush 6, 2) := by decide +kernel
theorem dX2_copyFrom_12 : decode cX2_copyFrom 12 = .ok (.invokestatic 25, 3) := by decide +kernel
theorem dX2_copyFrom_15 : decode cX2_copyFrom 15 = .ok (.aload_n 0, 1) := by decide +kernel
theorem dX2_copyFrom_16 : decode cX2_copyFrom 16 = .ok (.aload_n 1, 1) := by decide +kernel
theorem dX2_copyFrom_17 : decode cX2_copyFrom 17 = .ok (.getfield 15, 3) := by decide +kernel
theorem dX2_copyFrom_20 : decode cX2_copyFrom 20 = .ok (.putfield 15, 3) := by decide +kernel
theorem dX2_copyFrom_23 : decode cX2_copyFrom 23 = .ok (.return_, 1) := by decide +kernel
theorem dX3_init_0 : decode cX3_init 0 = .ok (.aload_n 0, 1) := by decide +kernel
theorem dX3_init_1 : decode cX3_init 1 = .ok (.invokespecial 3, 3) := by decide +kernel
theorem dX3_init_4 : decode cX3_init 4 = .ok (.aload_n 0, 1) := by decide +kernel
theorem dX3_init_5 : decode cX3_init 5 = .ok (.new 9, 3) := by decide +kernel
theorem dX3_init_8 : decode cX3_init 8 = .ok (.dup, 1) := by decide +kernel
theorem dX3_init_9 : decode cX3_init 9 = .ok (.invokespecial 11, 3) := by decide +kernel
theorem dX3_init_12 : decode cX3_init 12 = .ok (.putfield 12, 3) := by decide +kernel
theorem dX3_init_15 : decode cX3_init 15 = .ok (.aload_n 0, 1) := by decide +kernel
theorem dX3_init_16 : decode cX3_init 16 = .ok (.new 9, 3) := by decide +kernel
theorem dX3_init_19 : decode cX3_init 19 = .ok (.dup, 1) := by decide +kernel
theorem dX3_init_20 : decode cX3_init 20 = .ok (.invokespecial 11, 3) := by decide +kernel
theorem dX3_init_23 : decode cX3_init 23 = .ok (.putfield 18, 3) := by decide +kernel
theorem dX3_init_26 : decode cX3_init 26 = .ok (.aload_n 0, 1) := by decide +kernel
theorem dX3_init_27 : decode cX3_init 27 = .ok (.iload_n 1, 1) := by decide +kernel
theorem dX3_init_28 : decode cX3_init 28 = .ok (.putfield 21, 3) := by decide +kernel
theorem dX3_init_31 : decode cX3_init 31 = .ok (.aload_n 0, 1) := by decide +kernel
theorem dX3_init_32 : decode cX3_init 32 = .ok (.iload_n 1, 1) := by decide +kernel
theorem dX3_init_33 : decode cX3_init 33 = .ok (.iconst 3, 1) := by decide +kernel
theorem dX3_init_34 : decode cX3_init 34 = .ok (.irem, 1) := by decide +kernel
theorem dX3_init_35 : decode cX3_init 35 = .ok (.putfield 25, 3) := by decide +kernel
theorem dX3_init_38 : decode cX3_init 38 = .ok (.return_, 1) := by decide +kernel
theorem dX3_clear_0 : decode cX3_clear 0 = .ok (.aload_n 0, 1) := by decide +kernel
theorem dX3_clear_1 : decode cX3_clear 1 = .ok (.iload_n 1, 1) := by decide +kernel
theorem dX3_clear_2 : decode cX3_clear 2 = .ok (.ifCond .eq 7, 3) := by decide +kernel
theorem dX3_clear_5 : decode cX3_clear 5 = .ok (.iconst 1, 1) := by decide +kernel
theorem dX3_clear_6 : decode cX3_clear 6 = .ok (.goto 4, 3) := by decide +kernel
theorem dX3_clear_9 : decode cX3_clear 9 = .ok (.iconst 0, 1) := by decide +kernel
theorem dX3_clear_10 : decode cX3_clear 10 = .ok (.putfield 28, 3) := by decide +kernel
theorem dX3_clear_13 : decode cX3_clear 13 = .ok (.aload_n 0, 1) := by decide +kernel
theorem dX3_clear_14 : decode cX3_clear 14 = .ok (.invokevirtual 31, 3) := by decide +kernel
theorem dX3_clear_17 : decode cX3_clear 17 = .ok (.aload_n 0, 1) := by decide +kernel
theorem dX3_clear_18 : decode cX3_clear 18 = .ok (.bipush (-8), 2) := by decide +kernel
theorem dX3_clear_20 : decode cX3_clear 20 = .ok (.putfield 34, 3) := by decide +kernel
theorem dX3_clear_23 : decode cX3_clear 23 = .ok (.aload_n 0, 1) := by decide +kernel
theorem dX3_clear_24 : decode cX3_clear 24 = .ok (.iconst 0, 1) := by decide +kernel
theorem dX3_clear_25 : decode cX3_clear 25 = .ok (.putfield 37, 3) := by decide +kernel
theorem dX3_clear_28 : decode cX3_clear 28 = .ok (.aload_n 0, 1) := by decide +kernel
theorem dX3_clear_29 : decode cX3_clear 29 = .ok (.iconst 0, 1) := by decide +kernel
theorem dX3_clear_30 : decode cX3_clear 30 = .ok (.putfield 40, 3) := by decide +kernel
theorem dX3_clear_33 : decode cX3_clear 33 = .ok (.aload_n 0, 1) := by decide +kernel
theorem dX3_clear_34 : decode cX3_clear 34 = .ok (.iconst (-1), 1) := by decide +kernel
theorem dX3_clear_35 : decode cX3_clear 35 = .ok (.putfield 44, 3) := by decide +kernel
theorem dX3_clear_38 : decode cX3_clear 38 = .ok (.aload_n 0, 1) := by decide +kernel
theorem dX3_clear_39 : decode cX3_clear 39 = .ok (.iconst 0, 1) := by decide +kernel
theorem dX3_clear_40 : decode cX3_clear 40 = .ok (.putfield 47, 3) := by decide +kernel
theorem dX3_clear_43 : decode cX3_clear 43 = .ok (.aload_n 0, 1) := by decide +kernel
theorem dX3_clear_44 : decode cX3_clear 44 = .ok (.getfield 12, 3) := by decide +kernel
theorem dX3_clear_47 : decode cX3_clear 47 = .ok (.invokevirtual 50, 3) := by decide +kernel
theorem dX3_clear_50 : decode cX3_clear 50 = .ok (.aload_n 0, 1) := by decide +kernel
theorem dX3_clear_51 : decode cX3_clear 51 = .ok (.getfield 18, 3) := by decide +kernel
theorem dX3_clear_54 : decode cX3_clear 54 = .ok (.invokevirtual 50, 3) := by decide +kernel
theorem dX3_clear_57 : decode cX3_clear 57 = .ok (.return_, 1) := by decide +kernel
theorem dX3_isHeld_0 : decode cX3_isHeld 0 = .ok (.aload_n 0, 1) := by decide +kernel
theorem dX3_isHeld_1 : decode cX3_isHeld 1 = .ok (.getfield 53, 3) := by decide +kernel
theorem dX3_isHeld_4 : decode cX3_isHeld 4 = .ok (.ifCond .le 7, 3) := by decide +kernel
theorem dX3_isHeld_7 : decode cX3_isHeld 7 = .ok (.iconst 1, 1) := by decide +kernel
theorem dX3_isHeld_8 : decode cX3_isHeld 8 = .ok (.goto 4, 3) := by decide +kernel
theorem dX3_isHeld_11 : decode cX3_isHeld 11 = .ok (.iconst 0, 1) := by decide +kernel
theorem dX3_isHeld_12 : decode cX3_isHeld 12 = .ok (.ireturn, 1) := by decide +kernel
theorem dX3_isHeldBy_0 : decode cX3_isHeldBy 0 = .ok (.aload_n 0, 1) := by decide +kernel
theorem dX3_isHeldBy_1 : decode cX3_isHeldBy 1 = .ok (.invokevirtual 56, 3) := by decide +kernel
theorem dX3_isHeldBy_4 : decode cX3_isHeldBy 4 = .ok (.ifCond .eq 15, 3) := by decide +kernel
theorem dX3_isHeldBy_7 : decode cX3_isHeldBy 7 = .ok (.aload_n 0, 1) := by decide +kernel
theorem dX3_isHeldBy_8 : decode cX3_isHeldBy 8 = .ok (.getfield 60, 3) := by decide +kernel
theorem dX3_isHeldBy_11 : decode cX3_isHeldBy 11 = .ok (.iload_n 1, 1) := by decide +kernel
theorem dX3_isHeldBy_12 : decode cX3_isHeldBy 12 = .ok (.if_icmp .ne 7, 3) := by decide +kernel
theorem dX3_isHeldBy_15 : decode cX3_isHeldBy 15 = .ok (.iconst 1, 1) := by decide +kernel
theorem dX3_isHeldBy_16 : decode cX3_isHeldBy 16 = .ok (.goto 4, 3) := by decide +kernel
theorem dX3_isHeldBy_19 : decode cX3_isHeldBy 19 = .ok (.iconst 0, 1) := by decide +kernel
theorem dX3_isHeldBy_20 : decode cX3_isHeldBy 20 = .ok (.ireturn, 1) := by decide +kernel
theorem dX3_isIdle_0 : decode cX3_isIdle 0 = .ok (.aload_n 0, 1) := by decide +kernel
theorem dX3_isIdle_1 : decode cX3_isIdle 1 = .ok (.getfield 28, 3) := by decide +kernel
theorem dX3_isIdle_4 : decode cX3_isIdle 4 = .ok (.iconst 4, 1) := by decide +kernel
theorem dX3_isIdle_5 : decode cX3_isIdle 5 = .ok (.if_icmp .ne 34, 3) := by decide +kernel
theorem dX3_isIdle_8 : decode cX3_isIdle 8 = .ok (.aload_n 0, 1) := by decide +kernel
theorem dX3_isIdle_9 : decode cX3_isIdle 9 = .ok (.getfield 53, 3) := by decide +kernel
theorem dX3_isIdle_12 : decode cX3_isIdle 12 = .ok (.ifCond .ne 27, 3) := by decide +kernel
theorem dX3_isIdle_15 : decode cX3_isIdle 15 = .ok (.aload_n 0, 1) := by decide +kernel
theorem dX3_isIdle_16 : decode cX3_isIdle 16 = .ok (.getfield 12, 3) := by decide +kernel
theorem dX3_isIdle_19 : decode cX3_isIdle 19 = .ok (.getfield 63, 3) := by decide +kernel
theorem dX3_isIdle_22 : decode cX3_isIdle 22 = .ok (.ifCond .ne 17, 3) := by decide +kernel
theorem dX3_isIdle_25 : decode cX3_isIdle 25 = .ok (.aload_n 0, 1) := by decide +kernel
theorem dX3_isIdle_26 : decode cX3_isIdle 26 = .ok (.getfield 18, 3) := by decide +kernel
theorem dX3_isIdle_29 : decode cX3_isIdle 29 = .ok (.getfield 63, 3) := by decide +kernel
theorem dX3_isIdle_32 : decode cX3_isIdle 32 = .ok (.ifCond .ne 7, 3) := by decide +kernel
theorem dX3_isIdle_35 : decode cX3_isIdle 35 = .ok (.iconst 1, 1) := by decide +kernel
theorem dX3_isIdle_36 : decode cX3_isIdle 36 = .ok (.goto 4, 3) := by decide +kernel
theorem dX3_isIdle_39 : decode cX3_isIdle 39 = .ok (.iconst 0, 1) := by decide +kernel
theorem dX3_isIdle_40 : decode cX3_isIdle 40 = .ok (.ireturn, 1) := by decide +kernel
theorem dX3_give_0 : decode cX3_give 0 = .ok (.aload_n 0, 1) := by decide +kernel
theorem dX3_give_1 : decode cX3_give 1 = .ok (.iload_n 1, 1) := by decide +kernel
theorem dX3_give_2 : decode cX3_give 2 = .ok (.putfield 60, 3) := by decide +kernel
theorem dX3_give_5 : decode cX3_give 5 = .ok (.aload_n 0, 1) := by decide +kernel
theorem dX3_give_6 : decode cX3_give 6 = .ok (.iload_n 2, 1) := by decide +kernel
theorem dX3_give_7 : decode cX3_give 7 = .ok (.putfield 53, 3) := by decide +kernel
theorem dX3_give_10 : decode cX3_give 10 = .ok (.return_, 1) := by decide +kernel
theorem dX3_letGo_0 : decode cX3_letGo 0 = .ok (.aload_n 0, 1) := by decide +kernel
theorem dX3_letGo_1 : decode cX3_letGo 1 = .ok (.bipush (-8), 2) := by decide +kernel
theorem dX3_letGo_3 : decode cX3_letGo 3 = .ok (.putfield 60, 3) := by decide +kernel
theorem dX3_letGo_6 : decode cX3_letGo 6 = .ok (.aload_n 0, 1) := by decide +kernel
theorem dX3_letGo_7 : decode cX3_letGo 7 = .ok (.iconst 0, 1) := by decide +kernel
theorem dX3_letGo_8 : decode cX3_letGo 8 = .ok (.putfield 53, 3) := by decide +kernel
theorem dX3_letGo_11 : decode cX3_letGo 11 = .ok (.return_, 1) := by decide +kernel
theorem dX3_loseBias_0 : decode cX3_loseBias 0 = .ok (.aload_n 0, 1) := by decide +kernel
theorem dX3_loseBias_1 : decode cX3_loseBias 1 = .ok (.aload_n 0, 1) := by decide +kernel
theorem dX3_loseBias_2 : decode cX3_loseBias 2 = .ok (.getfield 53, 3) := by decide +kernel
theorem dX3_loseBias_5 : decode cX3_loseBias 5 = .ok (.ifCond .le 7, 3) := by decide +kernel
theorem dX3_loseBias_8 : decode cX3_loseBias 8 = .ok (.iconst 3, 1) := by decide +kernel
theorem dX3_loseBias_9 : decode cX3_loseBias 9 = .ok (.goto 4, 3) := by decide +kernel
theorem dX3_loseBias_12 : decode cX3_loseBias 12 = .ok (.iconst 0, 1) := by decide +kernel
theorem dX3_loseBias_13 : decode cX3_loseBias 13 = .ok (.putfield 28, 3) := by decide +kernel
theorem dX3_loseBias_16 : decode cX3_loseBias 16 = .ok (.return_, 1) := by decide +kernel
theorem dX3_putDescription_0 : decode cX3_putDescription 0 = .ok (.aload_n 1, 1) := by decide +kernel
theorem dX3_putDescription_1 : decode cX3_putDescription 1 = .ok (.aload_n 0, 1) := by decide +kernel
theorem dX3_putDescription_2 : decode cX3_putDescription 2 = .ok (.invokevirtual 66, 3) := by decide +kernel
theorem dX3_putDescription_5 : decode cX3_putDescription 5 = .ok (.invokevirtual 70, 3) := by decide +kernel
theorem dX3_putDescription_8 : decode cX3_putDescription 8 = .ok (.pop, 1) := by decide +kernel
theorem dX3_putDescription_9 : decode cX3_putDescription 9 = .ok (.aload_n 0, 1) := by decide +kernel
theorem dX3_putDescription_10 : decode cX3_putDescription 10 = .ok (.getfield 28, 3) := by decide +kernel
theorem dX3_putDescription_13 : decode cX3_putDescription 13 = .ok (.iconst 2, 1) := by decide +kernel
theorem dX3_putDescription_14 : decode cX3_putDescription 14 = .ok (.if_icmp .ne 33, 3) := by decide +kernel
theorem dX3_putDescription_17 : decode cX3_putDescription 17 = .ok (.aload_n 1, 1) := by decide +kernel
theorem dX3_putDescription_18 : decode cX3_putDescription 18 = .ok (.ldc 76, 2) := by decide +kernel
theorem dX3_putDescription_20 : decode cX3_putDescription 20 = .ok (.invokevirtual 70, 3) := by decide +kernel
theorem dX3_putDescription_23 : decode cX3_putDescription 23 = .ok (.aload_n 0, 1) := by decide +kernel
theorem dX3_putDescription_24 : decode cX3_putDescription 24 = .ok (.getfield 34, 3) := by decide +kernel
theorem dX3_putDescription_27 : decode cX3_putDescription 27 = .ok (.invokevirtual 78, 3) := by decide +kernel
theorem dX3_putDescription_30 : decode cX3_putDescription 30 = .ok (.pop, 1) := by decide +kernel
theorem dX3_putDescription_31 : decode cX3_putDescription 31 = .ok (.aload_n 1, 1) := by decide +kernel
theorem dX3_putDescription_32 : decode cX3_putDescription 32 = .ok (.iload_n 2, 1) := by decide +kernel
theorem dX3_putDescription_33 : decode cX3_putDescription 33 = .ok (.ifCond .eq 8, 3) := by decide +kernel
theorem dX3_putDescription_36 : decode cX3_putDescription 36 = .ok (.ldc 81, 2) := by decide +kernel
theorem dX3_putDescription_38 : decode cX3_putDescription 38 = .ok (.goto 5, 3) := by decide +kernel
theorem dX3_putDescription_41 : decode cX3_putDescription 41 = .ok (.ldc 83, 2) := by decide +kernel
theorem dX3_putDescription_43 : decode cX3_putDescription 43 = .ok (.invokevirtual 70, 3) := by decide +kernel
theorem dX3_putDescription_46 : decode cX3_putDescription 46 = .ok (.pop, 1) := by decide +kernel
theorem dX3_putDescription_47 : decode cX3_putDescription 47 = .ok (.aload_n 0, 1) := by decide +kernel
theorem dX3_putDescription_48 : decode cX3_putDescription 48 = .ok (.invokevirtual 56, 3) := by decide +kernel
theorem dX3_putDescription_51 : decode cX3_putDescription 51 = .ok (.ifCond .eq 29, 3) := by decide +kernel
theorem dX3_putDescription_54 : decode cX3_putDescription 54 = .ok (.aload_n 1, 1) := by decide +kernel
theorem dX3_putDescription_55 : decode cX3_putDescription 55 = .ok (.ldc 85, 2) := by decide +kernel
theorem dX3_putDescription_57 : decode cX3_putDescription 57 = .ok (.invokevirtual 70, 3) := by decide +kernel
theorem dX3_putDescription_60 : decode cX3_putDescription 60 = .ok (.aload_n 0, 1) := by decide +kernel
theorem dX3_putDescription_61 : decode cX3_putDescription 61 = .ok (.getfield 60, 3) := by decide +kernel
theorem dX3_putDescription_64 : decode cX3_putDescription 64 = .ok (.invokevirtual 78, 3) := by decide +kernel
theorem dX3_putDescription_67 : decode cX3_putDescription 67 = .ok (.ldc 87, 2) := by decide +kernel
theorem dX3_putDescription_69 : decode cX3_putDescription 69 = .ok (.invokevirtual 70, 3) := by decide +kernel
theorem dX3_putDescription_72 : decode cX3_putDescription 72 = .ok (.aload_n 0, 1) := by decide +kernel
theorem dX3_putDescription_73 : decode cX3_putDescription 73 = .ok (.getfield 53, 3) := by decide +kernel
theorem dX3_putDescription_76 : decode cX3_putDescription 76 = .ok (.invokevirtual 78, 3) := by decide +kernel
theorem dX3_putDescription_79 : decode cX3_putDescription 79 = .ok (.pop, 1) := by decide +kernel
theorem dX3_putDescription_80 : decode cX3_putDescription 80 = .ok (.aload_n 0, 1) := by decide +kernel
theorem dX3_putDescription_81 : decode cX3_putDescription 81 = .ok (.getfield 12, 3) := by decide +kernel
theorem dX3_putDescription_84 : decode cX3_putDescription 84 = .ok (.invokevirtual 89, 3) := by decide +kernel
theorem dX3_putDescription_87 : decode cX3_putDescription 87 = .ok (.ifCond .ne 18, 3) := by decide +kernel
theorem dX3_putDescription_90 : decode cX3_putDescription 90 = .ok (.aload_n 1, 1) := by decide +kernel
theorem dX3_putDescription_91 : decode cX3_putDescription 91 = .ok (.ldc 92, 2) := by decide +kernel
theorem dX3_putDescription_93 : decode cX3_putDescription 93 = .ok (.invokevirtual 70, 3) := by decide +kernel
theorem dX3_putDescription_96 : decode cX3_putDescription 96 = .ok (.pop, 1) := by decide +kernel
theorem dX3_putDescription_97 : decode cX3_putDescription 97 = .ok (.aload_n 0, 1) := by decide +kernel
theorem dX3_putDescription_98 : decode cX3_putDescription 98 = .ok (.getfield 12, 3) := by decide +kernel
theorem dX3_putDescription_101 : decode cX3_putDescription 101 = .ok (.aload_n 1, 1) := by decide +kernel
theorem dX3_putDescription_102 : decode cX3_putDescription 102 = .ok (.invokevirtual 94, 3) := by decide +kernel
theorem dX3_putDescription_105 : decode cX3_putDescription 105 = .ok (.aload_n 0, 1) := by decide +kernel
theorem dX3_putDescription_106 : decode cX3_putDescription 106 = .ok (.getfield 18, 3) := by decide +kernel
theorem dX3_putDescription_109 : decode cX3_putDescription 109 = .ok (.invokevirtual 89, 3) := by decide +kernel
theorem dX3_putDescription_112 : decode cX3_putDescription 112 = .ok (.ifCond .ne 18, 3) := by decide +kernel
theorem dX3_putDescription_115 : decode cX3_putDescription 115 = .ok (.aload_n 1, 1) := by decide +kernel
theorem dX3_putDescription_116 : decode cX3_putDescription 116 = .ok (.ldc 98, 2) := by decide +kernel
theorem dX3_putDescription_118 : decode cX3_putDescription 118 = .ok (.invokevirtual 70, 3) := by decide +kernel
theorem dX3_putDescription_121 : decode cX3_putDescription 121 = .ok (.pop, 1) := by decide +kernel
theorem dX3_putDescription_122 : decode cX3_putDescription 122 = .ok (.aload_n 0, 1) := by decide +kernel
theorem dX3_putDescription_123 : decode cX3_putDescription 123 = .ok (.getfield 18, 3) := by decide +kernel
theorem dX3_putDescription_126 : decode cX3_putDescription 126 = .ok (.aload_n 1, 1) := by decide +kernel
theorem dX3_putDescription_127 : decode cX3_putDescription 127 = .ok (.invokevirtual 94, 3) := by decide +kernel
theorem dX3_putDescription_130 : decode cX3_putDescription 130 = .ok (.aload_n 0, 1) := by decide +kernel
theorem dX3_putDescription_131 : decode cX3_putDescription 131 = .ok (.getfield 44, 3) := by decide +kernel
theorem dX3_putDescription_134 : decode cX3_putDescription 134 = .ok (.iconst (-1), 1) := by decide +kernel
theorem dX3_putDescription_135 : decode cX3_putDescription 135 = .ok (.if_icmp .eq 17, 3) := by decide +kernel
theorem dX3_putDescription_138 : decode cX3_putDescription 138 = .ok (.aload_n 1, 1) := by decide +kernel
theorem dX3_putDescription_139 : decode cX3_putDescription 139 = .ok (.ldc 100, 2) := by decide +kernel
theorem dX3_putDescription_141 : decode cX3_putDescription 141 = .ok (.invokevirtual 70, 3) := by decide +kernel
theorem dX3_putDescription_144 : decode cX3_putDescription 144 = .ok (.aload_n 0, 1) := by decide +kernel
theorem dX3_putDescription_145 : decode cX3_putDescription 145 = .ok (.getfield 44, 3) := by decide +kernel
theorem dX3_putDescription_148 : decode cX3_putDescription 148 = .ok (.invokevirtual 78, 3) := by decide +kernel
theorem dX3_putDescription_151 : decode cX3_putDescription 151 = .ok (.pop, 1) := by decide +kernel
theorem dX3_putDescription_152 : decode cX3_putDescription 152 = .ok (.aload_n 1, 1) := by decide +kernel
theorem dX3_putDescription_153 : decode cX3_putDescription 153 = .ok (.aload_n 0, 1) := by decide +kernel
theorem dX3_putDescription_154 : decode cX3_putDescription 154 = .ok (.getfield 40, 3) := by decide +kernel
theorem dX3_putDescription_157 : decode cX3_putDescription 157 = .ok (.ifCond .eq 8, 3) := by decide +kernel
theorem dX3_putDescription_160 : decode cX3_putDescription 160 = .ok (.ldc 102, 2) := by decide +kernel
theorem dX3_putDescription_162 : decode cX3_putDescription 162 = .ok (.goto 5, 3) := by decide +kernel
theorem dX3_putDescription_165 : decode cX3_putDescription 165 = .ok (.ldc 81, 2) := by decide +kernel
theorem dX3_putDescription_167 : decode cX3_putDescription 167 = .ok (.invokevirtual 70, 3) := by decide +kernel
theorem dX3_putDescription_170 : decode cX3_putDescription 170 = .ok (.pop, 1) := by decide +kernel
theorem dX3_putDescription_171 : decode cX3_putDescription 171 = .ok (.return_, 1) := by decide +kernel
theorem dX3_stateWord_0 : decode cX3_stateWord 0 = .ok (.aload_n 0, 1) := by decide +kernel
theorem dX3_stateWord_1 : decode cX3_stateWord 1 = .ok (.getfield 28, 3) := by decide +kernel
theorem dX3_stateWord_4 : decode cX3_stateWord 4 = .ok (.tableswitch 44 0 3 #[32, 35, 38, 41], 32) := by decide +kernel
theorem dX3_stateWord_36 : decode cX3_stateWord 36 = .ok (.ldc 104, 2) := by decide +kernel
theorem dX3_stateWord_38 : decode cX3_stateWord 38 = .ok (.areturn, 1) := by decide +kernel
theorem dX3_stateWord_39 : decode cX3_stateWord 39 = .ok (.ldc 106, 2) := by decide +kernel
theorem dX3_stateWord_41 : decode cX3_stateWord 41 = .ok (.areturn, 1) := by decide +kernel
theorem dX3_stateWord_42 : decode cX3_stateWord 42 = .ok (.ldc 108, 2) := by decide +kernel
theorem dX3_stateWord_44 : decode cX3_stateWord 44 = .ok (.areturn, 1) := by decide +kernel
theorem dX3_stateWord_45 : decode cX3_stateWord 45 = .ok (.ldc 110, 2) := by decide +kernel
theorem dX3_stateWord_47 : decode cX3_stateWord 47 = .ok (.areturn, 1) := by decide +kernel
theorem dX3_stateWord_48 : decode cX3_stateWord 48 = .ok (.ldc 112, 2) := by decide +kernel
theorem dX3_stateWord_50 : decode cX3_stateWord 50 = .ok (.areturn, 1) := by decide +kernel
theorem dX3_copyFrom_0 : decode cX3_copyFrom 0 = .ok (.aload_n 0, 1) := by decide +kernel
theorem dX3_copyFrom_1 : decode cX3_copyFrom 1 = .ok (.aload_n 1, 1) := by decide +kernel
theorem dX3_copyFrom_2 : decode cX3_copyFrom 2 = .ok (.getfield 28, 3) := by decide +kernel
theorem dX3_copyFrom_5 : decode cX3_copyFrom 5 = .ok (.putfield 28, 3) := by decide +kernel
theorem dX3_copyFrom_8 : decode cX3_copyFrom 8 = .ok (.aload_n 0, 1) := by decide +kernel
theorem dX3_copyFrom_9 : decode cX3_copyFrom 9 = .ok (.aload_n 1, 1) := by decide +kernel
theorem dX3_copyFrom_10 : decode cX3_copyFrom 10 = .ok (.getfield 60, 3) := by decide +kernel
theorem dX3_copyFrom_13 : decode cX3_copyFrom 13 = .ok (.putfield 60, 3) := by decide +kernel
theorem dX3_copyFrom_16 : decode cX3_copyFrom 16 = .ok (.aload_n 0, 1) := by decide +kernel
theorem dX3_copyFrom_17 : decode cX3_copyFrom 17 = .ok (.aload_n 1, 1) := by decide +kernel
theorem dX3_copyFrom_18 : decode cX3_copyFrom 18 = .ok (.getfield 53, 3) := by decide +kernel
theorem dX3_copyFrom_21 : decode cX3_copyFrom 21 = .ok (.putfield 53, 3) := by decide +kernel
theorem dX3_copyFrom_24 : decode cX3_copyFrom 24 = .ok (.aload_n 0, 1) := by decide +kernel
theorem dX3_copyFrom_25 : decode cX3_copyFrom 25 = .ok (.aload_n 1, 1) := by decide +kernel
theorem dX3_copyFrom_26 : decode cX3_copyFrom 26 = .ok (.getfield 34, 3) := by decide +kernel
theorem dX3_copyFrom_29 : decode cX3_copyFrom 29 = .ok (.putfield 34, 3) := by decide +kernel
theorem dX3_copyFrom_32 : decode cX3_copyFrom 32 = .ok (.aload_n 0, 1) := by decide +kernel
theorem dX3_copyFrom_33 : decode cX3_copyFrom 33 = .ok (.aload_n 1, 1) := by decide +kernel
theorem dX3_copyFrom_34 : decode cX3_copyFrom 34 = .ok (.getfield 37, 3) := by decide +kernel
theorem dX3_copyFrom_37 : decode cX3_copyFrom 37 = .ok (.putfield 37, 3) := by decide +kernel
theorem dX3_copyFrom_40 : decode cX3_copyFrom 40 = .ok (.aload_n 0, 1) := by decide +kernel
theorem dX3_copyFrom_41 : decode cX3_copyFrom 41 = .ok (.aload_n 1, 1) := by decide +kernel
theorem dX3_copyFrom_42 : decode cX3_copyFrom 42 = .ok (.getfield 40, 3) := by decide +kernel
theorem dX3_copyFrom_45 : decode cX3_copyFrom 45 = .ok (.putfield 40, 3) := by decide +kernel
theorem dX3_copyFrom_48 : decode cX3_copyFrom 48 = .ok (.aload_n 0, 1) := by decide +kernel
theorem dX3_copyFrom_49 : decode cX3_copyFrom 49 = .ok (.aload_n 1, 1) := by decide +kernel
theorem dX3_copyFrom_50 : decode cX3_copyFrom 50 = .ok (.getfield 44, 3) := by decide +kernel
theorem dX3_copyFrom_53 : decode cX3_copyFrom 53 = .ok (.putfield 44, 3) := by decide +kernel
theorem dX3_copyFrom_56 : decode cX3_copyFrom 56 = .ok (.aload_n 0, 1) := by decide +kernel
theorem dX3_copyFrom_57 : decode cX3_copyFrom 57 = .ok (.aload_n 1, 1) := by decide +kernel
theorem dX3_copyFrom_58 : decode cX3_copyFrom 58 = .ok (.getfield 47, 3) := by decide +kernel
theorem dX3_copyFrom_61 : decode cX3_copyFrom 61 = .ok (.putfield 47, 3) := by decide +kernel
theorem dX3_copyFrom_64 : decode cX3_copyFrom 64 = .ok (.aload_n 0, 1) := by decide +kernel
theorem dX3_copyFrom_65 : decode cX3_copyFrom 65 = .ok (.getfield 12, 3) := by decide +kernel
theorem dX3_copyFrom_68 : decode cX3_copyFrom 68 = .ok (.aload_n 1, 1) := by decide +kernel
theorem dX3_copyFrom_69 : decode cX3_copyFrom 69 = .ok (.getfield 12, 3) := by decide +kernel
theorem dX3_copyFrom_72 : decode cX3_copyFrom 72 = .ok (.invokevirtual 114, 3) := by decide +kernel
theorem dX3_copyFrom_75 : decode cX3_copyFrom 75 = .ok (.aload_n 0, 1) := by decide +kernel
theorem dX3_copyFrom_76 : decode cX3_copyFrom 76 = .ok (.getfield 18, 3) := by decide +kernel
theorem dX3_copyFrom_79 : decode cX3_copyFrom 79 = .ok (.aload_n 1, 1) := by decide +kernel
theorem dX3_copyFrom_80 : decode cX3_copyFrom 80 = .ok (.getfield 18, 3) := by decide +kernel
theorem dX3_copyFrom_83 : decode cX3_copyFrom 83 = .ok (.invokevirtual 114, 3) := by decide +kernel
theorem dX3_copyFrom_86 : decode cX3_copyFrom 86 = .ok (.return_, 1) := by decide +kernel
theorem dX4_form_0 : decode cX4_form 0 = .ok (.iload_n 0, 1) := by decide +kernel
theorem dX4_form_1 : decode cX4_form 1 = .ok (.tableswitch 78 0 8 #[51, 54, 57, 60, 63, 66, 69, 72, 75], 51) := by decide +kernel
theorem dX4_form_52 : decode cX4_form 52 = .ok (.ldc 7, 2) := by decide +kernel
theorem dX4_form_54 : decode cX4_form 54 = .ok (.areturn, 1) := by decide +kernel
theorem dX4_form_55 : decode cX4_form 55 = .ok (.ldc 9, 2) := by decide +kernel
theorem dX4_form_57 : decode cX4_form 57 = .ok (.areturn, 1) := by decide +kernel
theorem dX4_form_58 : decode cX4_form 58 = .ok (.ldc 11, 2) := by decide +kernel
theorem dX4_form_60 : decode cX4_form 60 = .ok (.areturn, 1) := by decide +kernel
theorem dX4_form_61 : decode cX4_form 61 = .ok (.ldc 13, 2) := by decide +kernel
theorem dX4_form_63 : decode cX4_form 63 = .ok (.areturn, 1) := by decide +kernel
theorem dX4_form_64 : decode cX4_form 64 = .ok (.ldc 15, 2) := by decide +kernel
theorem dX4_form_66 : decode cX4_form 66 = .ok (.areturn, 1) := by decide +kernel
theorem dX4_form_67 : decode cX4_form 67 = .ok (.ldc 17, 2) := by decide +kernel
theorem dX4_form_69 : decode cX4_form 69 = .ok (.areturn, 1) := by decide +kernel
theorem dX4_form_70 : decode cX4_form 70 = .ok (.ldc 19, 2) := by decide +kernel
theorem dX4_form_72 : decode cX4_form 72 = .ok (.areturn, 1) := by decide +kernel
theorem dX4_form_73 : decode cX4_form 73 = .ok (.ldc 21, 2) := by decide +kernel
theorem dX4_form_75 : decode cX4_form 75 = .ok (.areturn, 1) := by decide +kernel
theorem dX4_form_76 : decode cX4_form 76 = .ok (.ldc 23, 2) := by decide +kernel
theorem dX4_form_78 : decode cX4_form 78 = .ok (.areturn, 1) := by decide +kernel
theorem dX4_form_79 : decode cX4_form 79 = .ok (.ldc 25, 2) := by decide +kernel
theorem dX4_form_81 : decode cX4_form 81 = .ok (.areturn, 1) := by decide +kernel
theorem dX5_init_0 : decode cX5_init 0 = .ok (.aload_n 0, 1) := by decide +kernel
theorem dX5_init_1 : decode cX5_init 1 = .ok (.invokespecial 3, 3) := by decide +kernel
theorem dX5_init_4 : decode cX5_init 4 = .ok (.aload_n 0, 1) := by decide +kernel
theorem dX5_init_5 : decode cX5_init 5 = .ok (.sipush 200, 3) := by decide +kernel
theorem dX5_init_8 : decode cX5_init 8 = .ok (.newarray .int, 2) := by decide +kernel
theorem dX5_init_10 : decode cX5_init 10 = .ok (.putfield 11, 3) := by decide +kernel
theorem dX5_init_13 : decode cX5_init 13 = .ok (.aload_n 0, 1) := by decide +kernel
theorem dX5_init_14 : decode cX5_init 14 = .ok (.iconst 3, 1) := by decide +kernel
theorem dX5_init_15 : decode cX5_init 15 = .ok (.newarray .int, 2) := by decide +kernel
theorem dX5_init_17 : decode cX5_init 17 = .ok (.putfield 15, 3) := by decide +kernel
theorem dX5_init_20 : decode cX5_init 20 = .ok (.return_, 1) := by decide +kernel
theorem dX5_append_0 : decode cX5_append 0 = .ok (.aload_n 0, 1) := by decide +kernel
theorem dX5_append_1 : decode cX5_append 1 = .ok (.getfield 18, 3) := by decide +kernel
theorem dX5_append_4 : decode cX5_append 4 = .ok (.sipush 200, 3) := by decide +kernel
theorem dX5_append_7 : decode cX5_append 7 = .ok (.if_icmp .lt 5, 3) := by decide +kernel
theorem dX5_append_10 : decode cX5_append 10 = .ok (.iconst 0, 1) := by decide +kernel
theorem dX5_append_11 : decode cX5_append 11 = .ok (.ireturn, 1) := by decide +kernel
theorem dX5_append_12 : decode cX5_append 12 = .ok (.aload_n 0, 1) := by decide +kernel
theorem dX5_append_13 : decode cX5_append 13 = .ok (.getfield 11, 3) := by decide +kernel
theorem dX5_append_16 : decode cX5_append 16 = .ok (.aload_n 0, 1) := by decide +kernel
theorem dX5_append_17 : decode cX5_append 17 = .ok (.getfield 18, 3) := by decide +kernel
theorem dX5_append_20 : decode cX5_append 20 = .ok (.iload_n 1, 1) := by decide +kernel
theorem dX5_append_21 : decode cX5_append 21 = .ok (.iastore, 1) := by decide +kernel
theorem dX5_append_22 : decode cX5_append 22 = .ok (.aload_n 0, 1) := by decide +kernel
theorem dX5_append_23 : decode cX5_append 23 = .ok (.dup, 1) := by decide +kernel
theorem dX5_append_24 : decode cX5_append 24 = .ok (.getfield 18, 3) := by decide +kernel
theorem dX5_append_27 : decode cX5_append 27 = .ok (.iconst 1, 1) := by decide +kernel
theorem dX5_append_28 : decode cX5_append 28 = .ok (.iadd, 1) := by decide +kernel
theorem dX5_append_29 : decode cX5_append 29 = .ok (.putfield 18, 3) := by decide +kernel
theorem dX5_append_32 : decode cX5_append 32 = .ok (.iconst 1, 1) := by decide +kernel
theorem dX5_append_33 : decode cX5_append 33 = .ok (.ireturn, 1) := by decide +kernel
theorem dX5_faultyItem_0 : decode cX5_faultyItem 0 = .ok (.iconst 0, 1) := by decide +kernel
theorem dX5_faultyItem_1 : decode cX5_faultyItem 1 = .ok (.istore_n 1, 1) := by decide +kernel
theorem dX5_faultyItem_2 : decode cX5_faultyItem 2 = .ok (.iconst 0, 1) := by decide +kernel
theorem dX5_faultyItem_3 : decode cX5_faultyItem 3 = .ok (.istore_n 2, 1) := by decide +kernel
theorem dX5_faultyItem_4 : decode cX5_faultyItem 4 = .ok (.iload_n 2, 1) := by decide +kernel
theorem dX5_faultyItem_5 : decode cX5_faultyItem 5 = .ok (.sipush 200, 3) := by decide +kernel
theorem dX5_faultyItem_8 : decode cX5_faultyItem 8 = .ok (.if_icmp .ge 47, 3) := by decide +kernel
theorem dX5_faultyItem_11 : decode cX5_faultyItem 11 = .ok (.iload_n 1, 1) := by decide +kernel
theorem dX5_faultyItem_12 : decode cX5_faultyItem 12 = .ok (.aload_n 0, 1) := by decide +kernel
theorem dX5_faultyItem_13 : decode cX5_faultyItem 13 = .ok (.getfield 18, 3) := by decide +kernel
theorem dX5_faultyItem_16 : decode cX5_faultyItem 16 = .ok (.if_icmp .ge 39, 3) := by decide +kernel
theorem dX5_faultyItem_19 : decode cX5_faultyItem 19 = .ok (.aload_n 0, 1) := by decide +kernel
theorem dX5_faultyItem_20 : decode cX5_faultyItem 20 = .ok (.iload_n 1, 1) := by decide +kernel
theorem dX5_faultyItem_21 : decode cX5_faultyItem 21 = .ok (.invokevirtual 22, 3) := by decide +kernel
theorem dX5_faultyItem_24 : decode cX5_faultyItem 24 = .ok (.istore_n 3, 1) := by decide +kernel
theorem dX5_faultyItem_25 : decode cX5_faultyItem 25 = .ok (.iload_n 3, 1) := by decide +kernel
theorem dX5_faultyItem_26 : decode cX5_faultyItem 26 = .ok (.aload_n 0, 1) := by decide +kernel
theorem dX5_faultyItem_27 : decode cX5_faultyItem 27 = .ok (.getfield 18, 3) := by decide +kernel
theorem dX5_faultyItem_30 : decode cX5_faultyItem 30 = .ok (.if_icmp .ge 13, 3) := by decide +kernel
theorem dX5_faultyItem_33 : decode cX5_faultyItem 33 = .ok (.aload_n 0, 1) := by decide +kernel
theorem dX5_faultyItem_34 : decode cX5_faultyItem 34 = .ok (.iload_n 1, 1) := by decide +kernel
theorem dX5_faultyItem_35 : decode cX5_faultyItem 35 = .ok (.iload_n 3, 1) := by decide +kernel
theorem dX5_faultyItem_36 : decode cX5_faultyItem 36 = .ok (.invokevirtual 26, 3) := by decide +kernel
theorem dX5_faultyItem_39 : decode cX5_faultyItem 39 = .ok (.iconst (-1), 1) := by decide +kernel
theorem dX5_faultyItem_40 : decode cX5_faultyItem 40 = .ok (.if_icmp .ne 5, 3) := by decide +kernel
theorem dX5_faultyItem_43 : decode cX5_faultyItem 43 = .ok (.iload_n 2, 1) := by decide +kernel
theorem dX5_faultyItem_44 : decode cX5_faultyItem 44 = .ok (.ireturn, 1) := by decide +kernel
theorem dX5_faultyItem_45 : decode cX5_faultyItem 45 = .ok (.iload_n 3, 1) := by decide +kernel
theorem dX5_faultyItem_46 : decode cX5_faultyItem 46 = .ok (.iconst 1, 1) := by decide +kernel
theorem dX5_faultyItem_47 : decode cX5_faultyItem 47 = .ok (.iadd, 1) := by decide +kernel
theorem dX5_faultyItem_48 : decode cX5_faultyItem 48 = .ok (.istore_n 1, 1) := by decide +kernel
theorem dX5_faultyItem_49 : decode cX5_faultyItem 49 = .ok (.iinc 2 1, 3) := by decide +kernel
theorem dX5_faultyItem_52 : decode cX5_faultyItem 52 = .ok (.goto (-48), 3) := by decide +kernel
theorem dX5_faultyItem_55 : decode cX5_faultyItem 55 = .ok (.bipush (-8), 2) := by decide +kernel
theorem dX5_faultyItem_57 : decode cX5_faultyItem 57 = .ok (.ireturn, 1) := by decide +kernel
theorem dX5_endOfItem_0 : decode cX5_endOfItem 0 = .ok (.iload_n 1, 1) := by decide +kernel
theorem dX5_endOfItem_1 : decode cX5_endOfItem 1 = .ok (.iconst 0, 1) := by decide +kernel
theorem dX5_endOfItem_2 : decode cX5_endOfItem 2 = .ok (.invokestatic 30, 3) := by decide +kernel
theorem dX5_endOfItem_5 : decode cX5_endOfItem 5 = .ok (.istore_n 2, 1) := by decide +kernel
theorem dX5_endOfItem_6 : decode cX5_endOfItem 6 = .ok (.iload_n 2, 1) := by decide +kernel
theorem dX5_endOfItem_7 : decode cX5_endOfItem 7 = .ok (.aload_n 0, 1) := by decide +kernel
theorem dX5_endOfItem_8 : decode cX5_endOfItem 8 = .ok (.getfield 18, 3) := by decide +kernel
theorem dX5_endOfItem_11 : decode cX5_endOfItem 11 = .ok (.if_icmp .ge 22, 3) := by decide +kernel
theorem dX5_endOfItem_14 : decode cX5_endOfItem 14 = .ok (.aload_n 0, 1) := by decide +kernel
theorem dX5_endOfItem_15 : decode cX5_endOfItem 15 = .ok (.getfield 11, 3) := by decide +kernel
theorem dX5_endOfItem_18 : decode cX5_endOfItem 18 = .ok (.iload_n 2, 1) := by decide +kernel
theorem dX5_endOfItem_19 : decode cX5_endOfItem 19 = .ok (.iaload, 1) := by decide +kernel
theorem dX5_endOfItem_20 : decode cX5_endOfItem 20 = .ok (.bipush 59, 2) := by decide +kernel
theorem dX5_endOfItem_22 : decode cX5_endOfItem 22 = .ok (.if_icmp .ne 5, 3) := by decide +kernel
theorem dX5_endOfItem_25 : decode cX5_endOfItem 25 = .ok (.iload_n 2, 1) := by decide +kernel
theorem dX5_endOfItem_26 : decode cX5_endOfItem 26 = .ok (.ireturn, 1) := by decide +kernel
theorem dX5_endOfItem_27 : decode cX5_endOfItem 27 = .ok (.iinc 2 1, 3) := by decide +kernel
theorem dX5_endOfItem_30 : decode cX5_endOfItem 30 = .ok (.goto (-24), 3) := by decide +kernel
theorem dX5_endOfItem_33 : decode cX5_endOfItem 33 = .ok (.aload_n 0, 1) := by decide +kernel
theorem dX5_endOfItem_34 : decode cX5_endOfItem 34 = .ok (.getfield 18, 3) := by decide +kernel
theorem dX5_endOfItem_37 : decode cX5_endOfItem 37 = .ok (.ireturn, 1) := by decide +kernel
theorem dX5_readItem_0 : decode cX5_readItem 0 = .ok (.iconst 0, 1) := by decide +kernel
theorem dX5_readItem_1 : decode cX5_readItem 1 = .ok (.istore_n 3, 1) := by decide +kernel
theorem dX5_readItem_2 : decode cX5_readItem 2 = .ok (.iload_n 3, 1) := by decide +kernel
theorem dX5_readItem_3 : decode cX5_readItem 3 = .ok (.bipush 10, 2) := by decide +kernel
theorem dX5_readItem_5 : decode cX5_readItem 5 = .ok (.if_icmp .ge 24, 3) := by decide +kernel
theorem dX5_readItem_8 : decode cX5_readItem 8 = .ok (.aload_n 0, 1) := by decide +kernel
theorem dX5_readItem_9 : decode cX5_readItem 9 = .ok (.iload_n 3, 1) := by decide +kernel
theorem dX5_readItem_10 : decode cX5_readItem 10 = .ok (.invokestatic 37, 3) := by decide +kernel
theorem dX5_readItem_13 : decode cX5_readItem 13 = .ok (.iload_n 1, 1) := by decide +kernel
theorem dX5_readItem_14 : decode cX5_readItem 14 = .ok (.iload_n 2, 1) := by decide +kernel
theorem dX5_readItem_15 : decode cX5_readItem 15 = .ok (.invokevirtual 41, 3) := by decide +kernel
theorem dX5_readItem_18 : decode cX5_readItem 18 = .ok (.ifCond .eq 5, 3) := by decide +kernel
theorem dX5_readItem_21 : decode cX5_readItem 21 = .ok (.iload_n 3, 1) := by decide +kernel
theorem dX5_readItem_22 : decode cX5_readItem 22 = .ok (.ireturn, 1) := by decide +kernel
theorem dX5_readItem_23 : decode cX5_readItem 23 = .ok (.iinc 3 1, 3) := by decide +kernel
theorem dX5_readItem_26 : decode cX5_readItem 26 = .ok (.goto (-24), 3) := by decide +kernel
theorem dX5_readItem_29 : decode cX5_readItem 29 = .ok (.iconst (-1), 1) := by decide +kernel
theorem dX5_readItem_30 : decode cX5_readItem 30 = .ok (.ireturn, 1) := by decide +kernel
theorem dX5_argument_0 : decode cX5_argument 0 = .ok (.iload_n 1, 1) := by decide +kernel
theorem dX5_argument_1 : decode cX5_argument 1 = .ok (.ifCond .lt 20, 3) := by decide +kernel
theorem dX5_argument_4 : decode cX5_argument 4 = .ok (.iload_n 1, 1) := by decide +kernel
theorem dX5_argument_5 : decode cX5_argument 5 = .ok (.aload_n 0, 1) := by decide +kernel
theorem dX5_argument_6 : decode cX5_argument 6 = .ok (.getfield 45, 3) := by decide +kernel
theorem dX5_argument_9 : decode cX5_argument 9 = .ok (.if_icmp .ge 12, 3) := by decide +kernel
theorem dX5_argument_12 : decode cX5_argument 12 = .ok (.aload_n 0, 1) := by decide +kernel
theorem dX5_argument_13 : decode cX5_argument 13 = .ok (.getfield 15, 3) := by decide +kernel
theorem dX5_argument_16 : decode cX5_argument 16 = .ok (.iload_n 1, 1) := by decide +kernel
theorem dX5_argument_17 : decode cX5_argument 17 = .ok (.iaload, 1) := by decide +kernel
theorem dX5_argument_18 : decode cX5_argument 18 = .ok (.goto 4, 3) := by decide +kernel
theorem dX5_argument_21 : decode cX5_argument 21 = .ok (.iconst 0, 1) := by decide +kernel
theorem dX5_argument_22 : decode cX5_argument 22 = .ok (.ireturn, 1) := by decide +kernel
theorem dX5_hasForm_0 : decode cX5_hasForm 0 = .ok (.aload_n 0, 1) := by decide +kernel
theorem dX5_hasForm_1 : decode cX5_hasForm 1 = .ok (.iconst 0, 1) := by decide +kernel
theorem dX5_hasForm_2 : decode cX5_hasForm 2 = .ok (.putfield 45, 3) := by decide +kernel
theorem dX5_hasForm_5 : decode cX5_hasForm 5 = .ok (.iload_n 2, 1) := by decide +kernel
theorem dX5_hasForm_6 : decode cX5_hasForm 6 = .ok (.istore 4, 2) := by decide +kernel
theorem dX5_hasForm_8 : decode cX5_hasForm 8 = .ok (.iconst 0, 1) := by decide +kernel
theorem dX5_hasForm_9 : decode cX5_hasForm 9 = .ok (.istore 5, 2) := by decide +kernel
theorem dX5_hasForm_11 : decode cX5_hasForm 11 = .ok (.iload 5, 2) := by decide +kernel
theorem dX5_hasForm_13 : decode cX5_hasForm 13 = .ok (.aload_n 1, 1) := by decide +kernel
theorem dX5_hasForm_14 : decode cX5_hasForm 14 = .ok (.invokevirtual 48, 3) := by decide +kernel
theorem dX5_hasForm_17 : decode cX5_hasForm 17 = .ok (.if_icmp .ge 38, 3) := by decide +kernel
theorem dX5_hasForm_20 : decode cX5_hasForm 20 = .ok (.aload_n 0, 1) := by decide +kernel
theorem dX5_hasForm_21 : decode cX5_hasForm 21 = .ok (.aload_n 1, 1) := by decide +kernel
theorem dX5_hasForm_22 : decode cX5_hasForm 22 = .ok (.iload 5, 2) := by decide +kernel
theorem dX5_hasForm_24 : decode cX5_hasForm 24 = .ok (.invokevirtual 53, 3) := by decide +kernel
theorem dX5_hasForm_27 : decode cX5_hasForm 27 = .ok (.iload 4, 2) := by decide +kernel
theorem dX5_hasForm_29 : decode cX5_hasForm 29 = .ok (.iload_n 3, 1) := by decide +kernel
theorem dX5_hasForm_30 : decode cX5_hasForm 30 = .ok (.invokevirtual 57, 3) := by decide +kernel
theorem dX5_hasForm_33 : decode cX5_hasForm 33 = .ok (.istore 6, 2) := by decide +kernel
theorem dX5_hasForm_35 : decode cX5_hasForm 35 = .ok (.iload 6, 2) := by decide +kernel
theorem dX5_hasForm_37 : decode cX5_hasForm 37 = .ok (.ifCond .ne 5, 3) := by decide +kernel
theorem dX5_hasForm_40 : decode cX5_hasForm 40 = .ok (.iconst 0, 1) := by decide +kernel
theorem dX5_hasForm_41 : decode cX5_hasForm 41 = .ok (.ireturn, 1) := by decide +kernel
theorem dX5_hasForm_42 : decode cX5_hasForm 42 = .ok (.iload 4, 2) := by decide +kernel
theorem dX5_hasForm_44 : decode cX5_hasForm 44 = .ok (.iload 6, 2) := by decide +kernel
theorem dX5_hasForm_46 : decode cX5_hasForm 46 = .ok (.iadd, 1) := by decide +kernel
theorem dX5_hasForm_47 : decode cX5_hasForm 47 = .ok (.istore 4, 2) := by decide +kernel
theorem dX5_hasForm_49 : decode cX5_hasForm 49 = .ok (.iinc 5 1, 3) := by decide +kernel
theorem dX5_hasForm_52 : decode cX5_hasForm 52 = .ok (.goto (-41), 3) := by decide +kernel
theorem dX5_hasForm_55 : decode cX5_hasForm 55 = .ok (.iload 4, 2) := by decide +kernel
theorem dX5_hasForm_57 : decode cX5_hasForm 57 = .ok (.iload_n 3, 1) := by decide +kernel
theorem dX5_hasForm_58 : decode cX5_hasForm 58 = .ok (.if_icmp .ne 7, 3) := by decide +kernel
theorem dX5_hasForm_61 : decode cX5_hasForm 61 = .ok (.iconst 1, 1) := by decide +kernel
theorem dX5_hasForm_62 : decode cX5_hasForm 62 = .ok (.goto 4, 3) := by decide +kernel
theorem dX5_hasForm_65 : decode cX5_hasForm 65 = .ok (.iconst 0, 1) := by decide +kernel
theorem dX5_hasForm_66 : decode cX5_hasForm 66 = .ok (.ireturn, 1) := by decide +kernel
theorem dX5_matchSign_0 : decode cX5_matchSign 0 = .ok (.iload_n 2, 1) := by decide +kernel
theorem dX5_matchSign_1 : decode cX5_matchSign 1 = .ok (.ifCond .lt 16, 3) := by decide +kernel
theorem dX5_matchSign_4 : decode cX5_matchSign 4 = .ok (.iload_n 2, 1) := by decide +kernel
theorem dX5_matchSign_5 : decode cX5_matchSign 5 = .ok (.iload_n 3, 1) := by decide +kernel
theorem dX5_matchSign_6 : decode cX5_matchSign 6 = .ok (.if_icmp .ge 11, 3) := by decide +kernel
theorem dX5_matchSign_9 : decode cX5_matchSign 9 = .ok (.iload_n 2, 1) := by decide +kernel
theorem dX5_matchSign_10 : decode cX5_matchSign 10 = .ok (.aload_n 0, 1) := by decide +kernel
theorem dX5_matchSign_11 : decode cX5_matchSign 11 = .ok (.getfield 18, 3) := by decide +kernel
theorem dX5_matchSign_14 : decode cX5_matchSign 14 = .ok (.if_icmp .lt 5, 3) := by decide +kernel
theorem dX5_matchSign_17 : decode cX5_matchSign 17 = .ok (.iconst 0, 1) := by decide +kernel
theorem dX5_matchSign_18 : decode cX5_matchSign 18 = .ok (.ireturn, 1) := by decide +kernel
theorem dX5_matchSign_19 : decode cX5_matchSign 19 = .ok (.iload_n 1, 1) := by decide +kernel
theorem dX5_matchSign_20 : decode cX5_matchSign 20 = .ok (.lookupswitch 87 #[(78, 53), (79, 44), (84, 36)], 36) := by decide +kernel
theorem dX5_matchSign_56 : decode cX5_matchSign 56 = .ok (.aload_n 0, 1) := by decide +kernel
theorem dX5_matchSign_57 : decode cX5_matchSign 57 = .ok (.iload_n 2, 1) := by decide +kernel
theorem dX5_matchSign_58 : decode cX5_matchSign 58 = .ok (.iconst 1, 1) := by decide +kernel
theorem dX5_matchSign_59 : decode cX5_matchSign 59 = .ok (.iconst 5, 1) := by decide +kernel
theorem dX5_matchSign_60 : decode cX5_matchSign 60 = .ok (.invokevirtual 61, 3) := by decide +kernel
theorem dX5_matchSign_63 : decode cX5_matchSign 63 = .ok (.ireturn, 1) := by decide +kernel
theorem dX5_matchSign_64 : decode cX5_matchSign 64 = .ok (.aload_n 0, 1) := by decide +kernel
theorem dX5_matchSign_65 : decode cX5_matchSign 65 = .ok (.iload_n 2, 1) := by decide +kernel
theorem dX5_matchSign_66 : decode cX5_matchSign 66 = .ok (.iconst 1, 1) := by decide +kernel
theorem dX5_matchSign_67 : decode cX5_matchSign 67 = .ok (.bipush 7, 2) := by decide +kernel
theorem dX5_matchSign_69 : decode cX5_matchSign 69 = .ok (.invokevirtual 61, 3) := by decide +kernel
theorem dX5_matchSign_72 : decode cX5_matchSign 72 = .ok (.ireturn, 1) := by decide +kernel
theorem dX5_matchSign_73 : decode cX5_matchSign 73 = .ok (.aload_n 0, 1) := by decide +kernel
theorem dX5_matchSign_74 : decode cX5_matchSign 74 = .ok (.iload_n 2, 1) := by decide +kernel
theorem dX5_matchSign_75 : decode cX5_matchSign 75 = .ok (.aload_n 0, 1) := by decide +kernel
theorem dX5_matchSign_76 : decode cX5_matchSign 76 = .ok (.getfield 11, 3) := by decide +kernel
theorem dX5_matchSign_79 : decode cX5_matchSign 79 = .ok (.iload_n 2, 1) := by decide +kernel
theorem dX5_matchSign_80 : decode cX5_matchSign 80 = .ok (.iaload, 1) := by decide +kernel
theorem dX5_matchSign_81 : decode cX5_matchSign 81 = .ok (.bipush 48, 2) := by decide +kernel
theorem dX5_matchSign_83 : decode cX5_matchSign 83 = .ok (.if_icmp .eq 17, 3) := by decide +kernel
theorem dX5_matchSign_86 : decode cX5_matchSign 86 = .ok (.aload_n 0, 1) := by decide +kernel
theorem dX5_matchSign_87 : decode cX5_matchSign 87 = .ok (.iload_n 2, 1) := by decide +kernel
theorem dX5_matchSign_88 : decode cX5_matchSign 88 = .ok (.iconst 1, 1) := by decide +kernel
theorem dX5_matchSign_89 : decode cX5_matchSign 89 = .ok (.iadd, 1) := by decide +kernel
theorem dX5_matchSign_90 : decode cX5_matchSign 90 = .ok (.invokevirtual 65, 3) := by decide +kernel
theorem dX5_matchSign_93 : decode cX5_matchSign 93 = .ok (.ifCond .eq 7, 3) := by decide +kernel
theorem dX5_matchSign_96 : decode cX5_matchSign 96 = .ok (.iconst 2, 1) := by decide +kernel
theorem dX5_matchSign_97 : decode cX5_matchSign 97 = .ok (.goto 4, 3) := by decide +kernel
theorem dX5_matchSign_100 : decode cX5_matchSign 100 = .ok (.iconst 1, 1) := by decide +kernel
theorem dX5_matchSign_101 : decode cX5_matchSign 101 = .ok (.bipush 99, 2) := by decide +kernel
theorem dX5_matchSign_103 : decode cX5_matchSign 103 = .ok (.invokevirtual 61, 3) := by decide +kernel
theorem dX5_matchSign_106 : decode cX5_matchSign 106 = .ok (.ireturn, 1) := by decide +kernel
theorem dX5_matchSign_107 : decode cX5_matchSign 107 = .ok (.aload_n 0, 1) := by decide +kernel
theorem dX5_matchSign_108 : decode cX5_matchSign 108 = .ok (.getfield 11, 3) := by decide +kernel
theorem dX5_matchSign_111 : decode cX5_matchSign 111 = .ok (.iload_n 2, 1) := by decide +kernel
theorem dX5_matchSign_112 : decode cX5_matchSign 112 = .ok (.iaload, 1) := by decide +kernel
theorem dX5_matchSign_113 : decode cX5_matchSign 113 = .ok (.iload_n 1, 1) := by decide +kernel
theorem dX5_matchSign_114 : decode cX5_matchSign 114 = .ok (.if_icmp .ne 7, 3) := by decide +kernel
theorem dX5_matchSign_117 : decode cX5_matchSign 117 = .ok (.iconst 1, 1) := by decide +kernel
theorem dX5_matchSign_118 : decode cX5_matchSign 118 = .ok (.goto 4, 3) := by decide +kernel
theorem dX5_matchSign_121 : decode cX5_matchSign 121 = .ok (.iconst 0, 1) := by decide +kernel
theorem dX5_matchSign_122 : decode cX5_matchSign 122 = .ok (.ireturn, 1) := by decide +kernel
theorem dX5_matchNumber_0 : decode cX5_matchNumber 0 = .ok (.iconst 0, 1) := by decide +kernel
theorem dX5_matchNumber_1 : decode cX5_matchNumber 1 = .ok (.istore 4, 2) := by decide +kernel
theorem dX5_matchNumber_3 : decode cX5_matchNumber 3 = .ok (.iconst 0, 1) := by decide +kernel
theorem dX5_matchNumber_4 : decode cX5_matchNumber 4 = .ok (.istore 5, 2) := by decide +kernel
theorem dX5_matchNumber_6 : decode cX5_matchNumber 6 = .ok (.iload 5, 2) := by decide +kernel
theorem dX5_matchNumber_8 : decode cX5_matchNumber 8 = .ok (.iload_n 2, 1) := by decide +kernel
theorem dX5_matchNumber_9 : decode cX5_matchNumber 9 = .ok (.if_icmp .ge 42, 3) := by decide +kernel
theorem dX5_matchNumber_12 : decode cX5_matchNumber 12 = .ok (.aload_n 0, 1) := by decide +kernel
theorem dX5_matchNumber_13 : decode cX5_matchNumber 13 = .ok (.iload_n 1, 1) := by decide +kernel
theorem dX5_matchNumber_14 : decode cX5_matchNumber 14 = .ok (.iload 5, 2) := by decide +kernel
theorem dX5_matchNumber_16 : decode cX5_matchNumber 16 = .ok (.iadd, 1) := by decide +kernel
theorem dX5_matchNumber_17 : decode cX5_matchNumber 17 = .ok (.invokevirtual 65, 3) := by decide +kernel
theorem dX5_matchNumber_20 : decode cX5_matchNumber 20 = .ok (.ifCond .ne 5, 3) := by decide +kernel
theorem dX5_matchNumber_23 : decode cX5_matchNumber 23 = .ok (.iconst 0, 1) := by decide +kernel
theorem dX5_matchNumber_24 : decode cX5_matchNumber 24 = .ok (.ireturn, 1) := by decide +kernel
theorem dX5_matchNumber_25 : decode cX5_matchNumber 25 = .ok (.bipush 10, 2) := by decide +kernel
theorem dX5_matchNumber_27 : decode cX5_matchNumber 27 = .ok (.iload 4, 2) := by decide +kernel
theorem dX5_matchNumber_29 : decode cX5_matchNumber 29 = .ok (.imul, 1) := by decide +kernel
theorem dX5_matchNumber_30 : decode cX5_matchNumber 30 = .ok (.aload_n 0, 1) := by decide +kernel
theorem dX5_matchNumber_31 : decode cX5_matchNumber 31 = .ok (.getfield 11, 3) := by decide +kernel
theorem dX5_matchNumber_34 : decode cX5_matchNumber 34 = .ok (.iload_n 1, 1) := by decide +kernel
theorem dX5_matchNumber_35 : decode cX5_matchNumber 35 = .ok (.iload 5, 2) := by decide +kernel
theorem dX5_matchNumber_37 : decode cX5_matchNumber 37 = .ok (.iadd, 1) := by decide +kernel
theorem dX5_matchNumber_38 : decode cX5_matchNumber 38 = .ok (.iaload, 1) := by decide +kernel
theorem dX5_matchNumber_39 : decode cX5_matchNumber 39 = .ok (.iadd, 1) := by decide +kernel
theorem dX5_matchNumber_40 : decode cX5_matchNumber 40 = .ok (.bipush 48, 2) := by decide +kernel
theorem dX5_matchNumber_42 : decode cX5_matchNumber 42 = .ok (.isub, 1) := by decide +kernel
theorem dX5_matchNumber_43 : decode cX5_matchNumber 43 = .ok (.istore 4, 2) := by decide +kernel
theorem dX5_matchNumber_45 : decode cX5_matchNumber 45 = .ok (.iinc 5 1, 3) := by decide +kernel
theorem dX5_matchNumber_48 : decode cX5_matchNumber 48 = .ok (.goto (-42), 3) := by decide +kernel
theorem dX5_matchNumber_51 : decode cX5_matchNumber 51 = .ok (.iload 4, 2) := by decide +kernel
theorem dX5_matchNumber_53 : decode cX5_matchNumber 53 = .ok (.iload_n 3, 1) := by decide +kernel
theorem dX5_matchNumber_54 : decode cX5_matchNumber 54 = .ok (.if_icmp .gt 11, 3) := by decide +kernel
theorem dX5_matchNumber_57 : decode cX5_matchNumber 57 = .ok (.aload_n 0, 1) := by decide +kernel
theorem dX5_matchNumber_58 : decode cX5_matchNumber 58 = .ok (.getfield 45, 3) := by decide +kernel
theorem dX5_matchNumber_61 : decode cX5_matchNumber 61 = .ok (.iconst 3, 1) := by decide +kernel
theorem dX5_matchNumber_62 : decode cX5_matchNumber 62 = .ok (.if_icmp .lt 5, 3) := by decide +kernel
theorem dX5_matchNumber_65 : decode cX5_matchNumber 65 = .ok (.iconst 0, 1) := by decide +kernel
theorem dX5_matchNumber_66 : decode cX5_matchNumber 66 = .ok (.ireturn, 1) := by decide +kernel
theorem dX5_matchNumber_67 : decode cX5_matchNumber 67 = .ok (.aload_n 0, 1) := by decide +kernel
theorem dX5_matchNumber_68 : decode cX5_matchNumber 68 = .ok (.getfield 15, 3) := by decide +kernel
theorem dX5_matchNumber_71 : decode cX5_matchNumber 71 = .ok (.aload_n 0, 1) := by decide +kernel
theorem dX5_matchNumber_72 : decode cX5_matchNumber 72 = .ok (.getfield 45, 3) := by decide +kernel
theorem dX5_matchNumber_75 : decode cX5_matchNumber 75 = .ok (.iload 4, 2) := by decide +kernel
theorem dX5_matchNumber_77 : decode cX5_matchNumber 77 = .ok (.iastore, 1) := by decide +kernel
theorem dX5_matchNumber_78 : decode cX5_matchNumber 78 = .ok (.aload_n 0, 1) := by decide +kernel
theorem dX5_matchNumber_79 : decode cX5_matchNumber 79 = .ok (.dup, 1) := by decide +kernel
theorem dX5_matchNumber_80 : decode cX5_matchNumber 80 = .ok (.getfield 45, 3) := by decide +kernel
theorem dX5_matchNumber_83 : decode cX5_matchNumber 83 = .ok (.iconst 1, 1) := by decide +kernel
theorem dX5_matchNumber_84 : decode cX5_matchNumber 84 = .ok (.iadd, 1) := by decide +kernel
theorem dX5_matchNumber_85 : decode cX5_matchNumber 85 = .ok (.putfield 45, 3) := by decide +kernel
theorem dX5_matchNumber_88 : decode cX5_matchNumber 88 = .ok (.iload_n 2, 1) := by decide +kernel
theorem dX5_matchNumber_89 : decode cX5_matchNumber 89 = .ok (.ireturn, 1) := by decide +kernel
theorem dX5_isDigit_0 : decode cX5_isDigit 0 = .ok (.iload_n 1, 1) := by decide +kernel
theorem dX5_isDigit_1 : decode cX5_isDigit 1 = .ok (.ifCond .lt 37, 3) := by decide +kernel
theorem dX5_isDigit_4 : decode cX5_isDigit 4 = .ok (.iload_n 1, 1) := by decide +kernel
theorem dX5_isDigit_5 : decode cX5_isDigit 5 = .ok (.aload_n 0, 1) := by decide +kernel
theorem dX5_isDigit_6 : decode cX5_isDigit 6 = .ok (.getfield 18, 3) := by decide +kernel
theorem dX5_isDigit_9 : decode cX5_isDigit 9 = .ok (.if_icmp .ge 29, 3) := by decide +kernel
theorem dX5_isDigit_12 : decode cX5_isDigit 12 = .ok (.aload_n 0, 1) := by decide +kernel
theorem dX5_isDigit_13 : decode cX5_isDigit 13 = .ok (.getfield 11, 3) := by decide +kernel
theorem dX5_isDigit_16 : decode cX5_isDigit 16 = .ok (.iload_n 1, 1) := by decide +kernel
theorem dX5_isDigit_17 : decode cX5_isDigit 17 = .ok (.iaload, 1) := by decide +kernel
theorem dX5_isDigit_18 : decode cX5_isDigit 18 = .ok (.bipush 48, 2) := by decide +kernel
theorem dX5_isDigit_20 : decode cX5_isDigit 20 = .ok (.if_icmp .lt 18, 3) := by decide +kernel
theorem dX5_isDigit_23 : decode cX5_isDigit 23 = .ok (.aload_n 0, 1) := by decide +kernel
theorem dX5_isDigit_24 : decode cX5_isDigit 24 = .ok (.getfield 11, 3) := by decide +kernel
theorem dX5_isDigit_27 : decode cX5_isDigit 27 = .ok (.iload_n 1, 1) := by decide +kernel
theorem dX5_isDigit_28 : decode cX5_isDigit 28 = .ok (.iaload, 1) := by decide +kernel
theorem dX5_isDigit_29 : decode cX5_isDigit 29 = .ok (.bipush 57, 2) := by decide +kernel
theorem dX5_isDigit_31 : decode cX5_isDigit 31 = .ok (.if_icmp .gt 7, 3) := by decide +kernel
theorem dX5_isDigit_34 : decode cX5_isDigit 34 = .ok (.iconst 1, 1) := by decide +kernel
theorem dX5_isDigit_35 : decode cX5_isDigit 35 = .ok (.goto 4, 3) := by decide +kernel
theorem dX5_isDigit_38 : decode cX5_isDigit 38 = .ok (.iconst 0, 1) := by decide +kernel
theorem dX5_isDigit_39 : decode cX5_isDigit 39 = .ok (.ireturn, 1) := by decide +kernel
theorem dX6_init_0 : decode cX6_init 0 = .ok (.aload_n 0, 1) := by decide +kernel
theorem dX6_init_1 : decode cX6_init 1 = .ok (.invokespecial 1, 3) := by decide +kernel
theorem dX6_init_4 : decode cX6_init 4 = .ok (.aload_n 0, 1) := by decide +kernel
theorem dX6_init_5 : decode cX6_init 5 = .ok (.bipush 8, 2) := by decide +kernel
theorem dX6_init_7 : decode cX6_init 7 = .ok (.newarray .int, 2) := by decide +kernel
theorem dX6_init_9 : decode cX6_init 9 = .ok (.putfield 9, 3) := by decide +kernel
theorem dX6_init_12 : decode cX6_init 12 = .ok (.getstatic 13, 3) := by decide +kernel
theorem dX6_init_15 : decode cX6_init 15 = .ok (.iconst 0, 1) := by decide +kernel
theorem dX6_init_16 : decode cX6_init 16 = .ok (.aload_n 0, 1) := by decide +kernel
theorem dX6_init_17 : decode cX6_init 17 = .ok (.getfield 9, 3) := by decide +kernel
theorem dX6_init_20 : decode cX6_init 20 = .ok (.iconst 0, 1) := by decide +kernel
theorem dX6_init_21 : decode cX6_init 21 = .ok (.bipush 8, 2) := by decide +kernel
theorem dX6_init_23 : decode cX6_init 23 = .ok (.invokestatic 16, 3) := by decide +kernel
theorem dX6_init_26 : decode cX6_init 26 = .ok (.return_, 1) := by decide +kernel
theorem dX6_exists_0 : decode cX6_exists 0 = .ok (.iload_n 0, 1) := by decide +kernel
theorem dX6_exists_1 : decode cX6_exists 1 = .ok (.ifCond .lt 13, 3) := by decide +kernel
theorem dX6_exists_4 : decode cX6_exists 4 = .ok (.iload_n 0, 1) := by decide +kernel
theorem dX6_exists_5 : decode cX6_exists 5 = .ok (.bipush 8, 2) := by decide +kernel
theorem dX6_exists_7 : decode cX6_exists 7 = .ok (.if_icmp .ge 7, 3) := by decide +kernel
theorem dX6_exists_10 : decode cX6_exists 10 = .ok (.iconst 1, 1) := by decide +kernel
theorem dX6_exists_11 : decode cX6_exists 11 = .ok (.goto 4, 3) := by decide +kernel
theorem dX6_exists_14 : decode cX6_exists 14 = .ok (.iconst 0, 1) := by decide +kernel
theorem dX6_exists_15 : decode cX6_exists 15 = .ok (.ireturn, 1) := by decide +kernel
theorem dX6_allows_0 : decode cX6_allows 0 = .ok (.iload_n 0, 1) := by decide +kernel
theorem dX6_allows_1 : decode cX6_allows 1 = .ok (.invokestatic 22, 3) := by decide +kernel
theorem dX6_allows_4 : decode cX6_allows 4 = .ok (.ifCond .eq 25, 3) := by decide +kernel
theorem dX6_allows_7 : decode cX6_allows 7 = .ok (.iload_n 1, 1) := by decide +kernel
theorem dX6_allows_8 : decode cX6_allows 8 = .ok (.getstatic 26, 3) := by decide +kernel
theorem dX6_allows_11 : decode cX6_allows 11 = .ok (.iload_n 0, 1) := by decide +kernel
theorem dX6_allows_12 : decode cX6_allows 12 = .ok (.iaload, 1) := by decide +kernel
theorem dX6_allows_13 : decode cX6_allows 13 = .ok (.if_icmp .lt 16, 3) := by decide +kernel
theorem dX6_allows_16 : decode cX6_allows 16 = .ok (.iload_n 1, 1) := by decide +kernel
theorem dX6_allows_17 : decode cX6_allows 17 = .ok (.getstatic 29, 3) := by decide +kernel
theorem dX6_allows_20 : decode cX6_allows 20 = .ok (.iload_n 0, 1) := by decide +kernel
theorem dX6_allows_21 : decode cX6_allows 21 = .ok (.iaload, 1) := by decide +kernel
theorem dX6_allows_22 : decode cX6_allows 22 = .ok (.if_icmp .gt 7, 3) := by decide +kernel
theorem dX6_allows_25 : decode cX6_allows 25 = .ok (.iconst 1, 1) := by decide +kernel
theorem dX6_allows_26 : decode cX6_allows 26 = .ok (.goto 4, 3) := by decide +kernel
theorem dX6_allows_29 : decode cX6_allows 29 = .ok (.iconst 0, 1) := by decide +kernel
theorem dX6_allows_30 : decode cX6_allows 30 = .ok (.ireturn, 1) := by decide +kernel
theorem dX6_least_0 : decode cX6_least 0 = .ok (.iload_n 0, 1) := by decide +kernel
theorem dX6_least_1 : decode cX6_least 1 = .ok (.invokestatic 22, 3) := by decide +kernel
theorem dX6_least_4 : decode cX6_least 4 = .ok (.ifCond .eq 11, 3) := by decide +kernel
theorem dX6_least_7 : decode cX6_least 7 = .ok (.getstatic 26, 3) := by decide +kernel
theorem dX6_least_10 : decode cX6_least 10 = .ok (.iload_n 0, 1) := by decide +kernel
theorem dX6_least_11 : decode cX6_least 11 = .ok (.iaload, 1) := by decide +kernel
theorem dX6_least_12 : decode cX6_least 12 = .ok (.goto 4, 3) := by decide +kernel
theorem dX6_least_15 : decode cX6_least 15 = .ok (.iconst 0, 1) := by decide +kernel
theorem dX6_least_16 : decode cX6_least 16 = .ok (.ireturn, 1) := by decide +kernel
theorem dX6_greatest_0 : decode cX6_greatest 0 = .ok (.iload_n 0, 1) := by decide +kernel
theorem dX6_greatest_1 : decode cX6_greatest 1 = .ok (.invokestatic 22, 3) := by decide +kernel
theorem dX6_greatest_4 : decode cX6_greatest 4 = .ok (.ifCond .eq 11, 3) := by decide +kernel
theorem dX6_greatest_7 : decode cX6_greatest 7 = .ok (.getstatic 29, 3) := by decide +kernel
theorem dX6_greatest_10 : decode cX6_greatest 10 = .ok (.iload_n 0, 1) := by decide +kernel
theorem dX6_greatest_11 : decode cX6_greatest 11 = .ok (.iaload, 1) := by decide +kernel
theorem dX6_greatest_12 : decode cX6_greatest 12 = .ok (.goto 4, 3) := by decide +kernel
theorem dX6_greatest_15 : decode cX6_greatest 15 = .ok (.iconst 0, 1) := by decide +kernel
theorem dX6_greatest_16 : decode cX6_greatest 16 = .ok (.ireturn, 1) := by decide +kernel
theorem dX6_valueOf_0 : decode cX6_valueOf 0 = .ok (.iload_n 1, 1) := by decide +kernel
theorem dX6_valueOf_1 : decode cX6_valueOf 1 = .ok (.ifCond .lt 18, 3) := by decide +kernel
theorem dX6_valueOf_4 : decode cX6_valueOf 4 = .ok (.iload_n 1, 1) := by decide +kernel
theorem dX6_valueOf_5 : decode cX6_valueOf 5 = .ok (.bipush 8, 2) := by decide +kernel
theorem dX6_valueOf_7 : decode cX6_valueOf 7 = .ok (.if_icmp .ge 12, 3) := by decide +kernel
theorem dX6_valueOf_10 : decode cX6_valueOf 10 = .ok (.aload_n 0, 1) := by decide +kernel
theorem dX6_valueOf_11 : decode cX6_valueOf 11 = .ok (.getfield 9, 3) := by decide +kernel
theorem dX6_valueOf_14 : decode cX6_valueOf 14 = .ok (.iload_n 1, 1) := by decide +kernel
theorem dX6_valueOf_15 : decode cX6_valueOf 15 = .ok (.iaload, 1) := by decide +kernel
theorem dX6_valueOf_16 : decode cX6_valueOf 16 = .ok (.goto 4, 3) := by decide +kernel
theorem dX6_valueOf_19 : decode cX6_valueOf 19 = .ok (.iconst 0, 1) := by decide +kernel
theorem dX6_valueOf_20 : decode cX6_valueOf 20 = .ok (.ireturn, 1) := by decide +kernel
theorem dX6_change_0 : decode cX6_change 0 = .ok (.iload_n 1, 1) := by decide +kernel
theorem dX6_change_1 : decode cX6_change 1 = .ok (.iload_n 2, 1) := by decide +kernel
theorem dX6_change_2 : decode cX6_change 2 = .ok (.invokestatic 32, 3) := by decide +kernel
theorem dX6_change_5 : decode cX6_change 5 = .ok (.ifCond .eq 10, 3) := by decide +kernel
theorem dX6_change_8 : decode cX6_change 8 = .ok (.aload_n 0, 1) := by decide +kernel
theorem dX6_change_9 : decode cX6_change 9 = .ok (.getfield 9, 3) := by decide +kernel
theorem dX6_change_12 : decode cX6_change 12 = .ok (.iload_n 1, 1) := by decide +kernel
theorem dX6_change_13 : decode cX6_change 13 = .ok (.iload_n 2, 1) := by decide +kernel
theorem dX6_change_14 : decode cX6_change 14 = .ok (.iastore, 1) := by decide +kernel
theorem dX6_change_15 : decode cX6_change 15 = .ok (.return_, 1) := by decide +kernel
theorem dX6_copyFrom_0 : decode cX6_copyFrom 0 = .ok (.aload_n 1, 1) := by decide +kernel
theorem dX6_copyFrom_1 : decode cX6_copyFrom 1 = .ok (.getfield 9, 3) := by decide +kernel
theorem dX6_copyFrom_4 : decode cX6_copyFrom 4 = .ok (.iconst 0, 1) := by decide +kernel
theorem dX6_copyFrom_5 : decode cX6_copyFrom 5 = .ok (.aload_n 0, 1) := by decide +kernel
theorem dX6_copyFrom_6 : decode cX6_copyFrom 6 = .ok (.getfield 9, 3) := by decide +kernel
theorem dX6_copyFrom_9 : decode cX6_copyFrom 9 = .ok (.iconst 0, 1) := by decide +kernel
theorem dX6_copyFrom_10 : decode cX6_copyFrom 10 = .ok (.bipush 8, 2) := by decide +kernel
theorem dX6_copyFrom_12 : decode cX6_copyFrom 12 = .ok (.invokestatic 16, 3) := by decide +kernel
theorem dX6_copyFrom_15 : decode cX6_copyFrom 15 = .ok (.return_, 1) := by decide +kernel
theorem dX7_init_0 : decode cX7_init 0 = .ok (.aload_n 0, 1) := by decide +kernel
theorem dX7_init_1 : decode cX7_init 1 = .ok (.invokespecial 1, 3) := by decide +kernel
theorem dX7_init_4 : decode cX7_init 4 = .ok (.aload_n 0, 1) := by decide +kernel
theorem dX7_init_5 : decode cX7_init 5 = .ok (.new 7, 3) := by decide +kernel
theorem dX7_init_8 : decode cX7_init 8 = .ok (.dup, 1) := by decide +kernel
theorem dX7_init_9 : decode cX7_init 9 = .ok (.invokespecial 9, 3) := by decide +kernel
theorem dX7_init_12 : decode cX7_init 12 = .ok (.putfield 10, 3) := by decide +kernel
theorem dX7_init_15 : decode cX7_init 15 = .ok (.aload_n 0, 1) := by decide +kernel
theorem dX7_init_16 : decode cX7_init 16 = .ok (.new 16, 3) := by decide +kernel
theorem dX7_init_19 : decode cX7_init 19 = .ok (.dup, 1) := by decide +kernel
theorem dX7_init_20 : decode cX7_init 20 = .ok (.invokespecial 18, 3) := by decide +kernel
theorem dX7_init_23 : decode cX7_init 23 = .ok (.putfield 19, 3) := by decide +kernel
theorem dX7_init_26 : decode cX7_init 26 = .ok (.return_, 1) := by decide +kernel
theorem dX8_init_0 : decode cX8_init 0 = .ok (.aload_n 0, 1) := by decide +kernel
theorem dX8_init_1 : decode cX8_init 1 = .ok (.invokespecial 3, 3) := by decide +kernel
theorem dX8_init_4 : decode cX8_init 4 = .ok (.return_, 1) := by decide +kernel
theorem dX8_clear_0 : decode cX8_clear 0 = .ok (.aload_n 0, 1) := by decide +kernel
theorem dX8_clear_1 : decode cX8_clear 1 = .ok (.iconst 0, 1) := by decide +kernel
theorem dX8_clear_2 : decode cX8_clear 2 = .ok (.putfield 11, 3) := by decide +kernel
theorem dX8_clear_5 : decode cX8_clear 5 = .ok (.aload_n 0, 1) := by decide +kernel
theorem dX8_clear_6 : decode cX8_clear 6 = .ok (.iconst 0, 1) := by decide +kernel
theorem dX8_clear_7 : decode cX8_clear 7 = .ok (.putfield 15, 3) := by decide +kernel
theorem dX8_clear_10 : decode cX8_clear 10 = .ok (.aload_n 0, 1) := by decide +kernel
theorem dX8_clear_11 : decode cX8_clear 11 = .ok (.bipush (-8), 2) := by decide +kernel
theorem dX8_clear_13 : decode cX8_clear 13 = .ok (.putfield 19, 3) := by decide +kernel
theorem dX8_clear_16 : decode cX8_clear 16 = .ok (.aload_n 0, 1) := by decide +kernel
theorem dX8_clear_17 : decode cX8_clear 17 = .ok (.iconst (-1), 1) := by decide +kernel
theorem dX8_clear_18 : decode cX8_clear 18 = .ok (.putfield 22, 3) := by decide +kernel
theorem dX8_clear_21 : decode cX8_clear 21 = .ok (.aload_n 0, 1) := by decide +kernel
theorem dX8_clear_22 : decode cX8_clear 22 = .ok (.iconst 1, 1) := by decide +kernel
theorem dX8_clear_23 : decode cX8_clear 23 = .ok (.putfield 25, 3) := by decide +kernel
theorem dX8_clear_26 : decode cX8_clear 26 = .ok (.aload_n 0, 1) := by decide +kernel
theorem dX8_clear_27 : decode cX8_clear 27 = .ok (.bipush (-8), 2) := by decide +kernel
theorem dX8_clear_29 : decode cX8_clear 29 = .ok (.putfield 28, 3) := by decide +kernel
theorem dX8_clear_32 : decode cX8_clear 32 = .ok (.return_, 1) := by decide +kernel
theorem dX8_leavePlace_0 : decode cX8_leavePlace 0 = .ok (.aload_n 0, 1) := by decide +kernel
theorem dX8_leavePlace_1 : decode cX8_leavePlace 1 = .ok (.iload_n 1, 1) := by decide +kernel
theorem dX8_leavePlace_2 : decode cX8_leavePlace 2 = .ok (.putfield 11, 3) := by decide +kernel
theorem dX8_leavePlace_5 : decode cX8_leavePlace 5 = .ok (.aload_n 0, 1) := by decide +kernel
theorem dX8_leavePlace_6 : decode cX8_leavePlace 6 = .ok (.bipush (-8), 2) := by decide +kernel
theorem dX8_leavePlace_8 : decode cX8_leavePlace 8 = .ok (.putfield 19, 3) := by decide +kernel
theorem dX8_leavePlace_11 : decode cX8_leavePlace 11 = .ok (.return_, 1) := by decide +kernel
theorem dX8_copyFrom_0 : decode cX8_copyFrom 0 = .ok (.aload_n 0, 1) := by decide +kernel
theorem dX8_copyFrom_1 : decode cX8_copyFrom 1 = .ok (.aload_n 1, 1) := by decide +kernel
theorem dX8_copyFrom_2 : decode cX8_copyFrom 2 = .ok (.getfield 11, 3) := by decide +kernel
theorem dX8_copyFrom_5 : decode cX8_copyFrom 5 = .ok (.putfield 11, 3) := by decide +kernel
theorem dX8_copyFrom_8 : decode cX8_copyFrom 8 = .ok (.aload_n 0, 1) := by decide +kernel
theorem dX8_copyFrom_9 : decode cX8_copyFrom 9 = .ok (.aload_n 1, 1) := by decide +kernel
theorem dX8_copyFrom_10 : decode cX8_copyFrom 10 = .ok (.getfield 15, 3) := by decide +kernel
theorem dX8_copyFrom_13 : decode cX8_copyFrom 13 = .ok (.putfield 15, 3) := by decide +kernel
theorem dX8_copyFrom_16 : decode cX8_copyFrom 16 = .ok (.aload_n 0, 1) := by decide +kernel
theorem dX8_copyFrom_17 : decode cX8_copyFrom 17 = .ok (.aload_n 1, 1) := by decide +kernel
theorem dX8_copyFrom_18 : decode cX8_copyFrom 18 = .ok (.getfield 19, 3) := by decide +kernel
theorem dX8_copyFrom_21 : decode cX8_copyFrom 21 = .ok (.putfield 19, 3) := by decide +kernel
theorem dX8_copyFrom_24 : decode cX8_copyFrom 24 = .ok (.aload_n 0, 1) := by decide +kernel
theorem dX8_copyFrom_25 : decode cX8_copyFrom 25 = .ok (.aload_n 1, 1) := by decide +kernel
theorem dX8_copyFrom_26 : decode cX8_copyFrom 26 = .ok (.getfield 22, 3) := by decide +kernel
theorem dX8_copyFrom_29 : decode cX8_copyFrom 29 = .ok (.putfield 22, 3) := by decide +kernel
theorem dX8_copyFrom_32 : decode cX8_copyFrom 32 = .ok (.aload_n 0, 1) := by decide +kernel
theorem dX8_copyFrom_33 : decode cX8_copyFrom 33 = .ok (.aload_n 1, 1) := by decide +kernel
theorem dX8_copyFrom_34 : decode cX8_copyFrom 34 = .ok (.getfield 25, 3) := by decide +kernel
theorem dX8_copyFrom_37 : decode cX8_copyFrom 37 = .ok (.putfield 25, 3) := by decide +kernel
theorem dX8_copyFrom_40 : decode cX8_copyFrom 40 = .ok (.aload_n 0, 1) := by decide +kernel
theorem dX8_copyFrom_41 : decode cX8_copyFrom 41 = .ok (.aload_n 1, 1) := by decide +kernel
theorem dX8_copyFrom_42 : decode cX8_copyFrom 42 = .ok (.getfield 28, 3) := by decide +kernel
theorem dX8_copyFrom_45 : decode cX8_copyFrom 45 = .ok (.putfield 28, 3) := by decide +kernel
theorem dX8_copyFrom_48 : decode cX8_copyFrom 48 = .ok (.return_, 1) := by decide +kernel
theorem dX9_price_0 : decode cX9_price 0 = .ok (.iconst 0, 1) := by decide +kernel
theorem dX9_price_1 : decode cX9_price 1 = .ok (.istore_n 1, 1) := by decide +kernel
theorem dX9_price_2 : decode cX9_price 2 = .ok (.iconst 0, 1) := by decide +kernel
theorem dX9_price_3 : decode cX9_price 3 = .ok (.istore_n 2, 1) := by decide +kernel
theorem dX9_price_4 : decode cX9_price 4 = .ok (.iload_n 2, 1) := by decide +kernel
theorem dX9_price_5 : decode cX9_price 5 = .ok (.bipush 9, 2) := by decide +kernel
theorem dX9_price_7 : decode cX9_price 7 = .ok (.if_icmp .ge 27, 3) := by decide +kernel
theorem dX9_price_10 : decode cX9_price 10 = .ok (.iload_n 2, 1) := by decide +kernel
theorem dX9_price_11 : decode cX9_price 11 = .ok (.aload_n 0, 1) := by decide +kernel
theorem dX9_price_12 : decode cX9_price 12 = .ok (.arraylength, 1) := by decide +kernel
theorem dX9_price_13 : decode cX9_price 13 = .ok (.if_icmp .ge 21, 3) := by decide +kernel
theorem dX9_price_16 : decode cX9_price 16 = .ok (.iload_n 1, 1) := by decide +kernel
theorem dX9_price_17 : decode cX9_price 17 = .ok (.getstatic 9, 3) := by decide +kernel
theorem dX9_price_20 : decode cX9_price 20 = .ok (.iload_n 2, 1) := by decide +kernel
theorem dX9_price_21 : decode cX9_price 21 = .ok (.iaload, 1) := by decide +kernel
theorem dX9_price_22 : decode cX9_price 22 = .ok (.aload_n 0, 1) := by decide +kernel
theorem dX9_price_23 : decode cX9_price 23 = .ok (.iload_n 2, 1) := by decide +kernel
theorem dX9_price_24 : decode cX9_price 24 = .ok (.iaload, 1) := by decide +kernel
theorem dX9_price_25 : decode cX9_price 25 = .ok (.imul, 1) := by decide +kernel
theorem dX9_price_26 : decode cX9_price 26 = .ok (.iadd, 1) := by decide +kernel
theorem dX9_price_27 : decode cX9_price 27 = .ok (.istore_n 1, 1) := by decide +kernel
theorem dX9_price_28 : decode cX9_price 28 = .ok (.iinc 2 1, 3) := by decide +kernel
theorem dX9_price_31 : decode cX9_price 31 = .ok (.goto (-27), 3) := by decide +kernel
theorem dX9_price_34 : decode cX9_price 34 = .ok (.iload_n 1, 1) := by decide +kernel
theorem dX9_price_35 : decode cX9_price 35 = .ok (.ireturn, 1) := by decide +kernel
theorem dX10_init_0 : decode cX10_init 0 = .ok (.aload_n 0, 1) := by decide +kernel
theorem dX10_init_1 : decode cX10_init 1 = .ok (.invokespecial 3, 3) := by decide +kernel
theorem dX10_init_4 : decode cX10_init 4 = .ok (.aload_n 0, 1) := by decide +kernel
theorem dX10_init_5 : decode cX10_init 5 = .ok (.new 9, 3) := by decide +kernel
theorem dX10_init_8 : decode cX10_init 8 = .ok (.dup, 1) := by decide +kernel
theorem dX10_init_9 : decode cX10_init 9 = .ok (.invokespecial 11, 3) := by decide +kernel
theorem dX10_init_12 : decode cX10_init 12 = .ok (.putfield 12, 3) := by decide +kernel
theorem dX10_init_15 : decode cX10_init 15 = .ok (.aload_n 0, 1) := by decide +kernel
theorem dX10_init_16 : decode cX10_init 16 = .ok (.bipush 9, 2) := by decide +kernel
theorem dX10_init_18 : decode cX10_init 18 = .ok (.newarray .int, 2) := by decide +kernel
theorem dX10_init_20 : decode cX10_init 20 = .ok (.putfield 20, 3) := by decide +kernel
theorem dX10_init_23 : decode cX10_init 23 = .ok (.aload_n 0, 1) := by decide +kernel
theorem dX10_init_24 : decode cX10_init 24 = .ok (.bipush 6, 2) := by decide +kernel
theorem dX10_init_26 : decode cX10_init 26 = .ok (.anewarray 24, 3) := by decide +kernel
theorem dX10_init_29 : decode cX10_init 29 = .ok (.putfield 26, 3) := by decide +kernel
theorem dX10_init_32 : decode cX10_init 32 = .ok (.aload_n 0, 1) := by decide +kernel
theorem dX10_init_33 : decode cX10_init 33 = .ok (.bipush 8, 2) := by decide +kernel
theorem dX10_init_35 : decode cX10_init 35 = .ok (.anewarray 30, 3) := by decide +kernel
theorem dX10_init_38 : decode cX10_init 38 = .ok (.putfield 32, 3) := by decide +kernel
theorem dX10_init_41 : decode cX10_init 41 = .ok (.aload_n 0, 1) := by decide +kernel
theorem dX10_init_42 : decode cX10_init 42 = .ok (.iconst 3, 1) := by decide +kernel
theorem dX10_init_43 : decode cX10_init 43 = .ok (.anewarray 36, 3) := by decide +kernel
theorem dX10_init_46 : decode cX10_init 46 = .ok (.putfield 38, 3) := by decide +kernel
theorem dX10_init_49 : decode cX10_init 49 = .ok (.iconst 0, 1) := by decide +kernel
theorem dX10_init_50 : decode cX10_init 50 = .ok (.istore_n 1, 1) := by decide +kernel
theorem dX10_init_51 : decode cX10_init 51 = .ok (.iload_n 1, 1) := by decide +kernel
theorem dX10_init_52 : decode cX10_init 52 = .ok (.bipush 6, 2) := by decide +kernel
theorem dX10_init_54 : decode cX10_init 54 = .ok (.if_icmp .ge 22, 3) := by decide +kernel
theorem dX10_init_57 : decode cX10_init 57 = .ok (.aload_n 0, 1) := by decide +kernel
theorem dX10_init_58 : decode cX10_init 58 = .ok (.getfield 26, 3) := by decide +kernel
theorem dX10_init_61 : decode cX10_init 61 = .ok (.iload_n 1, 1) := by decide +kernel
theorem dX10_init_62 : decode cX10_init 62 = .ok (.new 24, 3) := by decide +kernel
theorem dX10_init_65 : decode cX10_init 65 = .ok (.dup, 1) := by decide +kernel
theorem dX10_init_66 : decode cX10_init 66 = .ok (.invokespecial 42, 3) := by decide +kernel
theorem dX10_init_69 : decode cX10_init 69 = .ok (.aastore, 1) := by decide +kernel
theorem dX10_init_70 : decode cX10_init 70 = .ok (.iinc 1 1, 3) := by decide +kernel
theorem dX10_init_73 : decode cX10_init 73 = .ok (.goto (-22), 3) := by decide +kernel
theorem dX10_init_76 : decode cX10_init 76 = .ok (.iconst 0, 1) := by decide +kernel
theorem dX10_init_77 : decode cX10_init 77 = .ok (.istore_n 1, 1) := by decide +kernel
theorem dX10_init_78 : decode cX10_init 78 = .ok (.iload_n 1, 1) := by decide +kernel
theorem dX10_init_79 : decode cX10_init 79 = .ok (.bipush 8, 2) := by decide +kernel
theorem dX10_init_81 : decode cX10_init 81 = .ok (.if_icmp .ge 23, 3) := by decide +kernel
theorem dX10_init_84 : decode cX10_init 84 = .ok (.aload_n 0, 1) := by decide +kernel
theorem dX10_init_85 : decode cX10_init 85 = .ok (.getfield 32, 3) := by decide +kernel
theorem dX10_init_88 : decode cX10_init 88 = .ok (.iload_n 1, 1) := by decide +kernel
theorem dX10_init_89 : decode cX10_init 89 = .ok (.new 30, 3) := by decide +kernel
theorem dX10_init_92 : decode cX10_init 92 = .ok (.dup, 1) := by decide +kernel
theorem dX10_init_93 : decode cX10_init 93 = .ok (.iload_n 1, 1) := by decide +kernel
theorem dX10_init_94 : decode cX10_init 94 = .ok (.invokespecial 43, 3) := by decide +kernel
theorem dX10_init_97 : decode cX10_init 97 = .ok (.aastore, 1) := by decide +kernel
theorem dX10_init_98 : decode cX10_init 98 = .ok (.iinc 1 1, 3) := by decide +kernel
theorem dX10_init_101 : decode cX10_init 101 = .ok (.goto (-23), 3) := by decide +kernel
theorem dX10_init_104 : decode cX10_init 104 = .ok (.iconst 0, 1) := by decide +kernel
theorem dX10_init_105 : decode cX10_init 105 = .ok (.istore_n 1, 1) := by decide +kernel
theorem dX10_init_106 : decode cX10_init 106 = .ok (.iload_n 1, 1) := by decide +kernel
theorem dX10_init_107 : decode cX10_init 107 = .ok (.iconst 3, 1) := by decide +kernel
theorem dX10_init_108 : decode cX10_init 108 = .ok (.if_icmp .ge 22, 3) := by decide +kernel
theorem dX10_init_111 : decode cX10_init 111 = .ok (.aload_n 0, 1) := by decide +kernel
theorem dX10_init_112 : decode cX10_init 112 = .ok (.getfield 38, 3) := by decide +kernel
theorem dX10_init_115 : decode cX10_init 115 = .ok (.iload_n 1, 1) := by decide +kernel
theorem dX10_init_116 : decode cX10_init 116 = .ok (.new 36, 3) := by decide +kernel
theorem dX10_init_119 : decode cX10_init 119 = .ok (.dup, 1) := by decide +kernel
theorem dX10_init_120 : decode cX10_init 120 = .ok (.invokespecial 46, 3) := by decide +kernel
theorem dX10_init_123 : decode cX10_init 123 = .ok (.aastore, 1) := by decide +kernel
theorem dX10_init_124 : decode cX10_init 124 = .ok (.iinc 1 1, 3) := by decide +kernel
theorem dX10_init_127 : decode cX10_init 127 = .ok (.goto (-21), 3) := by decide +kernel
theorem dX10_init_130 : decode cX10_init 130 = .ok (.aload_n 0, 1) := by decide +kernel
theorem dX10_init_131 : decode cX10_init 131 = .ok (.iconst 3, 1) := by decide +kernel
theorem dX10_init_132 : decode cX10_init 132 = .ok (.invokevirtual 47, 3) := by decide +kernel
theorem dX10_init_135 : decode cX10_init 135 = .ok (.return_, 1) := by decide +kernel
theorem dX10_begin_0 : decode cX10_begin 0 = .ok (.aload_n 0, 1) := by decide +kernel
theorem dX10_begin_1 : decode cX10_begin 1 = .ok (.iload_n 1, 1) := by decide +kernel
theorem dX10_begin_2 : decode cX10_begin 2 = .ok (.putfield 50, 3) := by decide +kernel
theorem dX10_begin_5 : decode cX10_begin 5 = .ok (.aload_n 0, 1) := by decide +kernel
theorem dX10_begin_6 : decode cX10_begin 6 = .ok (.iconst 0, 1) := by decide +kernel
theorem dX10_begin_7 : decode cX10_begin 7 = .ok (.putfield 54, 3) := by decide +kernel
theorem dX10_begin_10 : decode cX10_begin 10 = .ok (.aload_n 0, 1) := by decide +kernel
theorem dX10_begin_11 : decode cX10_begin 11 = .ok (.iconst 0, 1) := by decide +kernel
theorem dX10_begin_12 : decode cX10_begin 12 = .ok (.putfield 57, 3) := by decide +kernel
theorem dX10_begin_15 : decode cX10_begin 15 = .ok (.aload_n 0, 1) := by decide +kernel
theorem dX10_begin_16 : decode cX10_begin 16 = .ok (.getfield 20, 3) := by decide +kernel
theorem dX10_begin_19 : decode cX10_begin 19 = .ok (.iconst 0, 1) := by decide +kernel
theorem dX10_begin_20 : decode cX10_begin 20 = .ok (.invokestatic 60, 3) := by decide +kernel
theorem dX10_begin_23 : decode cX10_begin 23 = .ok (.aload_n 0, 1) := by decide +kernel
theorem dX10_begin_24 : decode cX10_begin 24 = .ok (.getfield 26, 3) := by decide +kernel
theorem dX10_begin_27 : decode cX10_begin 27 = .ok (.astore_n 2, 1) := by decide +kernel
theorem dX10_begin_28 : decode cX10_begin 28 = .ok (.aload_n 2, 1) := by decide +kernel
theorem dX10_begin_29 : decode cX10_begin 29 = .ok (.arraylength, 1) := by decide +kernel
theorem dX10_begin_30 : decode cX10_begin 30 = .ok (.istore_n 3, 1) := by decide +kernel
theorem dX10_begin_31 : decode cX10_begin 31 = .ok (.iconst 0, 1) := by decide +kernel
theorem dX10_begin_32 : decode cX10_begin 32 = .ok (.istore 4, 2) := by decide +kernel
theorem dX10_begin_34 : decode cX10_begin 34 = .ok (.iload 4, 2) := by decide +kernel
theorem dX10_begin_36 : decode cX10_begin 36 = .ok (.iload_n 3, 1) := by decide +kernel
theorem dX10_begin_37 : decode cX10_begin 37 = .ok (.if_icmp .ge 20, 3) := by decide +kernel
theorem dX10_begin_40 : decode cX10_begin 40 = .ok (.aload_n 2, 1) := by decide +kernel
theorem dX10_begin_41 : decode cX10_begin 41 = .ok (.iload 4, 2) := by decide +kernel
theorem dX10_begin_43 : decode cX10_begin 43 = .ok (.aaload, 1) := by decide +kernel
theorem dX10_begin_44 : decode cX10_begin 44 = .ok (.astore 5, 2) := by decide +kernel
theorem dX10_begin_46 : decode cX10_begin 46 = .ok (.aload 5, 2) := by decide +kernel
theorem dX10_begin_48 : decode cX10_begin 48 = .ok (.invokevirtual 66, 3) := by decide +kernel
theorem dX10_begin_51 : decode cX10_begin 51 = .ok (.iinc 4 1, 3) := by decide +kernel
theorem dX10_begin_54 : decode cX10_begin 54 = .ok (.goto (-20), 3) := by decide +kernel
theorem dX10_begin_57 : decode cX10_begin 57 = .ok (.aload_n 0, 1) := by decide +kernel
theorem dX10_begin_58 : decode cX10_begin 58 = .ok (.getfield 12, 3) := by decide +kernel
theorem dX10_begin_61 : decode cX10_begin 61 = .ok (.iconst 0, 1) := by decide +kernel
theorem dX10_begin_62 : decode cX10_begin 62 = .ok (.invokevirtual 69, 3) := by decide +kernel
theorem dX10_begin_65 : decode cX10_begin 65 = .ok (.iconst 1, 1) := by decide +kernel
theorem dX10_begin_66 : decode cX10_begin 66 = .ok (.if_icmp .ne 7, 3) := by decide +kernel
theorem dX10_begin_69 : decode cX10_begin 69 = .ok (.iconst 1, 1) := by decide +kernel
theorem dX10_begin_70 : decode cX10_begin 70 = .ok (.goto 4, 3) := by decide +kernel
theorem dX10_begin_73 : decode cX10_begin 73 = .ok (.iconst 0, 1) := by decide +kernel
theorem dX10_begin_74 : decode cX10_begin 74 = .ok (.istore_n 2, 1) := by decide +kernel
theorem dX10_begin_75 : decode cX10_begin 75 = .ok (.aload_n 0, 1) := by decide +kernel
theorem dX10_begin_76 : decode cX10_begin 76 = .ok (.getfield 32, 3) := by decide +kernel
theorem dX10_begin_79 : decode cX10_begin 79 = .ok (.astore_n 3, 1) := by decide +kernel
theorem dX10_begin_80 : decode cX10_begin 80 = .ok (.aload_n 3, 1) := by decide +kernel
theorem dX10_begin_81 : decode cX10_begin 81 = .ok (.arraylength, 1) := by decide +kernel
theorem dX10_begin_82 : decode cX10_begin 82 = .ok (.istore 4, 2) := by decide +kernel
theorem dX10_begin_84 : decode cX10_begin 84 = .ok (.iconst 0, 1) := by decide +kernel
theorem dX10_begin_85 : decode cX10_begin 85 = .ok (.istore 5, 2) := by decide +kernel
theorem dX10_begin_87 : decode cX10_begin 87 = .ok (.iload 5, 2) := by decide +kernel
theorem dX10_begin_89 : decode cX10_begin 89 = .ok (.iload 4, 2) := by decide +kernel
theorem dX10_begin_91 : decode cX10_begin 91 = .ok (.if_icmp .ge 21, 3) := by decide +kernel
theorem dX10_begin_94 : decode cX10_begin 94 = .ok (.aload_n 3, 1) := by decide +kernel
theorem dX10_begin_95 : decode cX10_begin 95 = .ok (.iload 5, 2) := by decide +kernel
theorem dX10_begin_97 : decode cX10_begin 97 = .ok (.aaload, 1) := by decide +kernel
theorem dX10_begin_98 : decode cX10_begin 98 = .ok (.astore 6, 2) := by decide +kernel
theorem dX10_begin_100 : decode cX10_begin 100 = .ok (.aload 6, 2) := by decide +kernel
theorem dX10_begin_102 : decode cX10_begin 102 = .ok (.iload_n 2, 1) := by decide +kernel
theorem dX10_begin_103 : decode cX10_begin 103 = .ok (.invokevirtual 73, 3) := by decide +kernel
theorem dX10_begin_106 : decode cX10_begin 106 = .ok (.iinc 5 1, 3) := by decide +kernel
theorem dX10_begin_109 : decode cX10_begin 109 = .ok (.goto (-22), 3) := by decide +kernel
theorem dX10_begin_112 : decode cX10_begin 112 = .ok (.aload_n 0, 1) := by decide +kernel
theorem dX10_begin_113 : decode cX10_begin 113 = .ok (.getfield 38, 3) := by decide +kernel
theorem dX10_begin_116 : decode cX10_begin 116 = .ok (.astore_n 3, 1) := by decide +kernel
theorem dX10_begin_117 : decode cX10_begin 117 = .ok (.aload_n 3, 1) := by decide +kernel
theorem dX10_begin_118 : decode cX10_begin 118 = .ok (.arraylength, 1) := by decide +kernel
theorem dX10_begin_119 : decode cX10_begin 119 = .ok (.istore 4, 2) := by decide +kernel
theorem dX10_begin_121 : decode cX10_begin 121 = .ok (.iconst 0, 1) := by decide +kernel
theorem dX10_begin_122 : decode cX10_begin 122 = .ok (.istore 5, 2) := by decide +kernel
theorem dX10_begin_124 : decode cX10_begin 124 = .ok (.iload 5, 2) := by decide +kernel
theorem dX10_begin_126 : decode cX10_begin 126 = .ok (.iload 4, 2) := by decide +kernel
theorem dX10_begin_128 : decode cX10_begin 128 = .ok (.if_icmp .ge 20, 3) := by decide +kernel
theorem dX10_begin_131 : decode cX10_begin 131 = .ok (.aload_n 3, 1) := by decide +kernel
theorem dX10_begin_132 : decode cX10_begin 132 = .ok (.iload 5, 2) := by decide +kernel
theorem dX10_begin_134 : decode cX10_begin 134 = .ok (.aaload, 1) := by decide +kernel
theorem dX10_begin_135 : decode cX10_begin 135 = .ok (.astore 6, 2) := by decide +kernel
theorem dX10_begin_137 : decode cX10_begin 137 = .ok (.aload 6, 2) := by decide +kernel
theorem dX10_begin_139 : decode cX10_begin 139 = .ok (.invokevirtual 76, 3) := by decide +kernel
theorem dX10_begin_142 : decode cX10_begin 142 = .ok (.iinc 5 1, 3) := by decide +kernel
theorem dX10_begin_145 : decode cX10_begin 145 = .ok (.goto (-21), 3) := by decide +kernel
theorem dX10_begin_148 : decode cX10_begin 148 = .ok (.return_, 1) := by decide +kernel
theorem dX10_copyFrom_0 : decode cX10_copyFrom 0 = .ok (.aload_n 0, 1) := by decide +kernel
theorem dX10_copyFrom_1 : decode cX10_copyFrom 1 = .ok (.aload_n 1, 1) := by decide +kernel
theorem dX10_copyFrom_2 : decode cX10_copyFrom 2 = .ok (.getfield 50, 3) := by decide +kernel
theorem dX10_copyFrom_5 : decode cX10_copyFrom 5 = .ok (.putfield 50, 3) := by decide +kernel
theorem dX10_copyFrom_8 : decode cX10_copyFrom 8 = .ok (.aload_n 0, 1) := by decide +kernel
theorem dX10_copyFrom_9 : decode cX10_copyFrom 9 = .ok (.aload_n 1, 1) := by decide +kernel
theorem dX10_copyFrom_10 : decode cX10_copyFrom 10 = .ok (.getfield 54, 3) := by decide +kernel
theorem dX10_copyFrom_13 : decode cX10_copyFrom 13 = .ok (.putfield 54, 3) := by decide +kernel
theorem dX10_copyFrom_16 : decode cX10_copyFrom 16 = .ok (.aload_n 0, 1) := by decide +kernel
theorem dX10_copyFrom_17 : decode cX10_copyFrom 17 = .ok (.aload_n 1, 1) := by decide +kernel
theorem dX10_copyFrom_18 : decode cX10_copyFrom 18 = .ok (.getfield 57, 3) := by decide +kernel
theorem dX10_copyFrom_21 : decode cX10_copyFrom 21 = .ok (.putfield 57, 3) := by decide +kernel
theorem dX10_copyFrom_24 : decode cX10_copyFrom 24 = .ok (.aload_n 0, 1) := by decide +kernel
theorem dX10_copyFrom_25 : decode cX10_copyFrom 25 = .ok (.getfield 12, 3) := by decide +kernel
theorem dX10_copyFrom_28 : decode cX10_copyFrom 28 = .ok (.aload_n 1, 1) := by decide +kernel
theorem dX10_copyFrom_29 : decode cX10_copyFrom 29 = .ok (.getfield 12, 3) := by decide +kernel
theorem dX10_copyFrom_32 : decode cX10_copyFrom 32 = .ok (.invokevirtual 77, 3) := by decide +kernel
theorem dX10_copyFrom_35 : decode cX10_copyFrom 35 = .ok (.aload_n 1, 1) := by decide +kernel
theorem dX10_copyFrom_36 : decode cX10_copyFrom 36 = .ok (.getfield 20, 3) := by decide +kernel
theorem dX10_copyFrom_39 : decode cX10_copyFrom 39 = .ok (.iconst 0, 1) := by decide +kernel
theorem dX10_copyFrom_40 : decode cX10_copyFrom 40 = .ok (.aload_n 0, 1) := by decide +kernel
theorem dX10_copyFrom_41 : decode cX10_copyFrom 41 = .ok (.getfield 20, 3) := by decide +kernel
theorem dX10_copyFrom_44 : decode cX10_copyFrom 44 = .ok (.iconst 0, 1) := by decide +kernel
theorem dX10_copyFrom_45 : decode cX10_copyFrom 45 = .ok (.bipush 9, 2) := by decide +kernel
theorem dX10_copyFrom_47 : decode cX10_copyFrom 47 = .ok (.invokestatic 81, 3) := by decide +kernel
theorem dX10_copyFrom_50 : decode cX10_copyFrom 50 = .ok (.iconst 0, 1) := by decide +kernel
theorem dX10_copyFrom_51 : decode cX10_copyFrom 51 = .ok (.istore_n 2, 1) := by decide +kernel
theorem dX10_copyFrom_52 : decode cX10_copyFrom 52 = .ok (.iload_n 2, 1) := by decide +kernel
theorem dX10_copyFrom_53 : decode cX10_copyFrom 53 = .ok (.bipush 6, 2) := by decide +kernel
theorem dX10_copyFrom_55 : decode cX10_copyFrom 55 = .ok (.if_icmp .ge 24, 3) := by decide +kernel
theorem dX10_copyFrom_58 : decode cX10_copyFrom 58 = .ok (.aload_n 0, 1) := by decide +kernel
theorem dX10_copyFrom_59 : decode cX10_copyFrom 59 = .ok (.getfield 26, 3) := by decide +kernel
theorem dX10_copyFrom_62 : decode cX10_copyFrom 62 = .ok (.iload_n 2, 1) := by decide +kernel
theorem dX10_copyFrom_63 : decode cX10_copyFrom 63 = .ok (.aaload, 1) := by decide +kernel
theorem dX10_copyFrom_64 : decode cX10_copyFrom 64 = .ok (.aload_n 1, 1) := by decide +kernel
theorem dX10_copyFrom_65 : decode cX10_copyFrom 65 = .ok (.getfield 26, 3) := by decide +kernel
theorem dX10_copyFrom_68 : decode cX10_copyFrom 68 = .ok (.iload_n 2, 1) := by decide +kernel
theorem dX10_copyFrom_69 : decode cX10_copyFrom 69 = .ok (.aaload, 1) := by decide +kernel
theorem dX10_copyFrom_70 : decode cX10_copyFrom 70 = .ok (.invokevirtual 87, 3) := by decide +kernel
theorem dX10_copyFrom_73 : decode cX10_copyFrom 73 = .ok (.iinc 2 1, 3) := by decide +kernel
theorem dX10_copyFrom_76 : decode cX10_copyFrom 76 = .ok (.goto (-24), 3) := by decide +kernel
theorem dX10_copyFrom_79 : decode cX10_copyFrom 79 = .ok (.iconst 0, 1) := by decide +kernel
theorem dX10_copyFrom_80 : decode cX10_copyFrom 80 = .ok (.istore_n 2, 1) := by decide +kernel
theorem dX10_copyFrom_81 : decode cX10_copyFrom 81 = .ok (.iload_n 2, 1) := by decide +kernel
theorem dX10_copyFrom_82 : decode cX10_copyFrom 82 = .ok (.bipush 8, 2) := by decide +kernel
theorem dX10_copyFrom_84 : decode cX10_copyFrom 84 = .ok (.if_icmp .ge 24, 3) := by decide +kernel
theorem dX10_copyFrom_87 : decode cX10_copyFrom 87 = .ok (.aload_n 0, 1) := by decide +kernel
theorem dX10_copyFrom_88 : decode cX10_copyFrom 88 = .ok (.getfield 32, 3) := by decide +kernel
theorem dX10_copyFrom_91 : decode cX10_copyFrom 91 = .ok (.iload_n 2, 1) := by decide +kernel
theorem dX10_copyFrom_92 : decode cX10_copyFrom 92 = .ok (.aaload, 1) := by decide +kernel
theorem dX10_copyFrom_93 : decode cX10_copyFrom 93 = .ok (.aload_n 1, 1) := by decide +kernel
theorem dX10_copyFrom_94 : decode cX10_copyFrom 94 = .ok (.getfield 32, 3) := by decide +kernel
theorem dX10_copyFrom_97 : decode cX10_copyFrom 97 = .ok (.iload_n 2, 1) := by decide +kernel
theorem dX10_copyFrom_98 : decode cX10_copyFrom 98 = .ok (.aaload, 1) := by decide +kernel
theorem dX10_copyFrom_99 : decode cX10_copyFrom 99 = .ok (.invokevirtual 90, 3) := by decide +kernel
theorem dX10_copyFrom_102 : decode cX10_copyFrom 102 = .ok (.iinc 2 1, 3) := by decide +kernel
theorem dX10_copyFrom_105 : decode cX10_copyFrom 105 = .ok (.goto (-24), 3) := by decide +kernel
theorem dX10_copyFrom_108 : decode cX10_copyFrom 108 = .ok (.iconst 0, 1) := by decide +kernel
theorem dX10_copyFrom_109 : decode cX10_copyFrom 109 = .ok (.istore_n 2, 1) := by decide +kernel
theorem dX10_copyFrom_110 : decode cX10_copyFrom 110 = .ok (.iload_n 2, 1) := by decide +kernel
theorem dX10_copyFrom_111 : decode cX10_copyFrom 111 = .ok (.iconst 3, 1) := by decide +kernel
theorem dX10_copyFrom_112 : decode cX10_copyFrom 112 = .ok (.if_icmp .ge 24, 3) := by decide +kernel
theorem dX10_copyFrom_115 : decode cX10_copyFrom 115 = .ok (.aload_n 0, 1) := by decide +kernel
theorem dX10_copyFrom_116 : decode cX10_copyFrom 116 = .ok (.getfield 38, 3) := by decide +kernel
theorem dX10_copyFrom_119 : decode cX10_copyFrom 119 = .ok (.iload_n 2, 1) := by decide +kernel
theorem dX10_copyFrom_120 : decode cX10_copyFrom 120 = .ok (.aaload, 1) := by decide +kernel
theorem dX10_copyFrom_121 : decode cX10_copyFrom 121 = .ok (.aload_n 1, 1) := by decide +kernel
theorem dX10_copyFrom_122 : decode cX10_copyFrom 122 = .ok (.getfield 38, 3) := by decide +kernel
theorem dX10_copyFrom_125 : decode cX10_copyFrom 125 = .ok (.iload_n 2, 1) := by decide +kernel
theorem dX10_copyFrom_126 : decode cX10_copyFrom 126 = .ok (.aaload, 1) := by decide +kernel
theorem dX10_copyFrom_127 : decode cX10_copyFrom 127 = .ok (.invokevirtual 93, 3) := by decide +kernel
theorem dX10_copyFrom_130 : decode cX10_copyFrom 130 = .ok (.iinc 2 1, 3) := by decide +kernel
theorem dX10_copyFrom_133 : decode cX10_copyFrom 133 = .ok (.goto (-23), 3) := by decide +kernel
theorem dX10_copyFrom_136 : decode cX10_copyFrom 136 = .ok (.return_, 1) := by decide +kernel
theorem dX10_perform_0 : decode cX10_perform 0 = .ok (.iload_n 1, 1) := by decide +kernel
theorem dX10_perform_1 : decode cX10_perform 1 = .ok (.tableswitch 122 0 9 #[55, 62, 69, 78, 85, 92, 98, 104, 110, 116], 55) := by decide +kernel
theorem dX10_perform_56 : decode cX10_perform 56 = .ok (.aload_n 0, 1) := by decide +kernel
theorem dX10_perform_57 : decode cX10_perform 57 = .ok (.iload_n 2, 1) := by decide +kernel
theorem dX10_perform_58 : decode cX10_perform 58 = .ok (.iload_n 3, 1) := by decide +kernel
theorem dX10_perform_59 : decode cX10_perform 59 = .ok (.invokevirtual 96, 3) := by decide +kernel
theorem dX10_perform_62 : decode cX10_perform 62 = .ok (.ireturn, 1) := by decide +kernel
theorem dX10_perform_63 : decode cX10_perform 63 = .ok (.aload_n 0, 1) := by decide +kernel
theorem dX10_perform_64 : decode cX10_perform 64 = .ok (.iload_n 2, 1) := by decide +kernel
theorem dX10_perform_65 : decode cX10_perform 65 = .ok (.iload_n 3, 1) := by decide +kernel
theorem dX10_perform_66 : decode cX10_perform 66 = .ok (.invokevirtual 100, 3) := by decide +kernel
theorem dX10_perform_69 : decode cX10_perform 69 = .ok (.ireturn, 1) := by decide +kernel
theorem dX10_perform_70 : decode cX10_perform 70 = .ok (.aload_n 0, 1) := by decide +kernel
theorem dX10_perform_71 : decode cX10_perform 71 = .ok (.iload_n 2, 1) := by decide +kernel
theorem dX10_perform_72 : decode cX10_perform 72 = .ok (.iload_n 3, 1) := by decide +kernel
theorem dX10_perform_73 : decode cX10_perform 73 = .ok (.iload 4, 2) := by decide +kernel
theorem dX10_perform_75 : decode cX10_perform 75 = .ok (.invokevirtual 103, 3) := by decide +kernel
theorem dX10_perform_78 : decode cX10_perform 78 = .ok (.ireturn, 1) := by decide +kernel
theorem dX10_perform_79 : decode cX10_perform 79 = .ok (.aload_n 0, 1) := by decide +kernel
theorem dX10_perform_80 : decode cX10_perform 80 = .ok (.iload_n 2, 1) := by decide +kernel
theorem dX10_perform_81 : decode cX10_perform 81 = .ok (.iload_n 3, 1) := by decide +kernel
theorem dX10_perform_82 : decode cX10_perform 82 = .ok (.invokevirtual 107, 3) := by decide +kernel
theorem dX10_perform_85 : decode cX10_perform 85 = .ok (.ireturn, 1) := by decide +kernel
theorem dX10_perform_86 : decode cX10_perform 86 = .ok (.aload_n 0, 1) := by decide +kernel
theorem dX10_perform_87 : decode cX10_perform 87 = .ok (.iload_n 2, 1) := by decide +kernel
theorem dX10_perform_88 : decode cX10_perform 88 = .ok (.iload_n 3, 1) := by decide +kernel
theorem dX10_perform_89 : decode cX10_perform 89 = .ok (.invokevirtual 110, 3) := by decide +kernel
theorem dX10_perform_92 : decode cX10_perform 92 = .ok (.ireturn, 1) := by decide +kernel
theorem dX10_perform_93 : decode cX10_perform 93 = .ok (.aload_n 0, 1) := by decide +kernel
theorem dX10_perform_94 : decode cX10_perform 94 = .ok (.iload_n 2, 1) := by decide +kernel
theorem dX10_perform_95 : decode cX10_perform 95 = .ok (.invokevirtual 113, 3) := by decide +kernel
theorem dX10_perform_98 : decode cX10_perform 98 = .ok (.ireturn, 1) := by decide +kernel
theorem dX10_perform_99 : decode cX10_perform 99 = .ok (.aload_n 0, 1) := by decide +kernel
theorem dX10_perform_100 : decode cX10_perform 100 = .ok (.iload_n 2, 1) := by decide +kernel
theorem dX10_perform_101 : decode cX10_perform 101 = .ok (.invokevirtual 116, 3) := by decide +kernel
theorem dX10_perform_104 : decode cX10_perform 104 = .ok (.ireturn, 1) := by decide +kernel
theorem dX10_perform_105 : decode cX10_perform 105 = .ok (.aload_n 0, 1) := by decide +kernel
theorem dX10_perform_106 : decode cX10_perform 106 = .ok (.iload_n 2, 1) := by decide +kernel
theorem dX10_perform_107 : decode cX10_perform 107 = .ok (.invokevirtual 119, 3) := by decide +kernel
theorem dX10_perform_110 : decode cX10_perform 110 = .ok (.ireturn, 1) := by decide +kernel
theorem dX10_perform_111 : decode cX10_perform 111 = .ok (.aload_n 0, 1) := by decide +kernel
theorem dX10_perform_112 : decode cX10_perform 112 = .ok (.iload_n 2, 1) := by decide +kernel
theorem dX10_perform_113 : decode cX10_perform 113 = .ok (.invokevirtual 122, 3) := by decide +kernel
theorem dX10_perform_116 : decode cX10_perform 116 = .ok (.ireturn, 1) := by decide +kernel
theorem dX10_perform_117 : decode cX10_perform 117 = .ok (.aload_n 0, 1) := by decide +kernel
theorem dX10_perform_118 : decode cX10_perform 118 = .ok (.iload_n 2, 1) := by decide +kernel
theorem dX10_perform_119 : decode cX10_perform 119 = .ok (.invokevirtual 125, 3) := by decide +kernel
theorem dX10_perform_122 : decode cX10_perform 122 = .ok (.ireturn, 1) := by decide +kernel
theorem dX10_perform_123 : decode cX10_perform 123 = .ok (.bipush (-3), 2) := by decide +kernel
theorem dX10_perform_125 : decode cX10_perform 125 = .ok (.ireturn, 1) := by decide +kernel
theorem dX10_hasThread_0 : decode cX10_hasThread 0 = .ok (.iload_n 1, 1) := by decide +kernel
theorem dX10_hasThread_1 : decode cX10_hasThread 1 = .ok (.ifCond .lt 21, 3) := by decide +kernel
theorem dX10_hasThread_4 : decode cX10_hasThread 4 = .ok (.iload_n 1, 1) := by decide +kernel
theorem dX10_hasThread_5 : decode cX10_hasThread 5 = .ok (.aload_n 0, 1) := by decide +kernel
theorem dX10_hasThread_6 : decode cX10_hasThread 6 = .ok (.getfield 50, 3) := by decide +kernel
theorem dX10_hasThread_9 : decode cX10_hasThread 9 = .ok (.if_icmp .ge 13, 3) := by decide +kernel
theorem dX10_hasThread_12 : decode cX10_hasThread 12 = .ok (.iload_n 1, 1) := by decide +kernel
theorem dX10_hasThread_13 : decode cX10_hasThread 13 = .ok (.bipush 6, 2) := by decide +kernel
theorem dX10_hasThread_15 : decode cX10_hasThread 15 = .ok (.if_icmp .ge 7, 3) := by decide +kernel
theorem dX10_hasThread_18 : decode cX10_hasThread 18 = .ok (.iconst 1, 1) := by decide +kernel
theorem dX10_hasThread_19 : decode cX10_hasThread 19 = .ok (.goto 4, 3) := by decide +kernel
theorem dX10_hasThread_22 : decode cX10_hasThread 22 = .ok (.iconst 0, 1) := by decide +kernel
theorem dX10_hasThread_23 : decode cX10_hasThread 23 = .ok (.ireturn, 1) := by decide +kernel
theorem dX10_runnerError_0 : decode cX10_runnerError 0 = .ok (.aload_n 0, 1) := by decide +kernel
theorem dX10_runnerError_1 : decode cX10_runnerError 1 = .ok (.iload_n 1, 1) := by decide +kernel
theorem dX10_runnerError_2 : decode cX10_runnerError 2 = .ok (.invokevirtual 128, 3) := by decide +kernel
theorem dX10_runnerError_5 : decode cX10_runnerError 5 = .ok (.ifCond .ne 5, 3) := by decide +kernel
theorem dX10_runnerError_8 : decode cX10_runnerError 8 = .ok (.iconst (-1), 1) := by decide +kernel
theorem dX10_runnerError_9 : decode cX10_runnerError 9 = .ok (.ireturn, 1) := by decide +kernel
theorem dX10_runnerError_10 : decode cX10_runnerError 10 = .ok (.iload_n 2, 1) := by decide +kernel
theorem dX10_runnerError_11 : decode cX10_runnerError 11 = .ok (.invokestatic 132, 3) := by decide +kernel
theorem dX10_runnerError_14 : decode cX10_runnerError 14 = .ok (.ifCond .ne 6, 3) := by decide +kernel
theorem dX10_runnerError_17 : decode cX10_runnerError 17 = .ok (.bipush (-2), 2) := by decide +kernel
theorem dX10_runnerError_19 : decode cX10_runnerError 19 = .ok (.ireturn, 1) := by decide +kernel
theorem dX10_runnerError_20 : decode cX10_runnerError 20 = .ok (.aload_n 0, 1) := by decide +kernel
theorem dX10_runnerError_21 : decode cX10_runnerError 21 = .ok (.getfield 26, 3) := by decide +kernel
theorem dX10_runnerError_24 : decode cX10_runnerError 24 = .ok (.iload_n 1, 1) := by decide +kernel
theorem dX10_runnerError_25 : decode cX10_runnerError 25 = .ok (.aaload, 1) := by decide +kernel
theorem dX10_runnerError_26 : decode cX10_runnerError 26 = .ok (.getfield 135, 3) := by decide +kernel
theorem dX10_runnerError_29 : decode cX10_runnerError 29 = .ok (.ifCond .ne 7, 3) := by decide +kernel
theorem dX10_runnerError_32 : decode cX10_runnerError 32 = .ok (.iconst 0, 1) := by decide +kernel
theorem dX10_runnerError_33 : decode cX10_runnerError 33 = .ok (.goto 5, 3) := by decide +kernel
theorem dX10_runnerError_36 : decode cX10_runnerError 36 = .ok (.bipush (-4), 2) := by decide +kernel
theorem dX10_runnerError_38 : decode cX10_runnerError 38 = .ok (.ireturn, 1) := by decide +kernel
theorem dX10_ownerError_0 : decode cX10_ownerError 0 = .ok (.aload_n 0, 1) := by decide +kernel
theorem dX10_ownerError_1 : decode cX10_ownerError 1 = .ok (.iload_n 1, 1) := by decide +kernel
theorem dX10_ownerError_2 : decode cX10_ownerError 2 = .ok (.iload_n 2, 1) := by decide +kernel
theorem dX10_ownerError_3 : decode cX10_ownerError 3 = .ok (.invokevirtual 138, 3) := by decide +kernel
theorem dX10_ownerError_6 : decode cX10_ownerError 6 = .ok (.istore_n 3, 1) := by decide +kernel
theorem dX10_ownerError_7 : decode cX10_ownerError 7 = .ok (.iload_n 3, 1) := by decide +kernel
theorem dX10_ownerError_8 : decode cX10_ownerError 8 = .ok (.ifCond .eq 5, 3) := by decide +kernel
theorem dX10_ownerError_11 : decode cX10_ownerError 11 = .ok (.iload_n 3, 1) := by decide +kernel
theorem dX10_ownerError_12 : decode cX10_ownerError 12 = .ok (.ireturn, 1) := by decide +kernel
theorem dX10_ownerError_13 : decode cX10_ownerError 13 = .ok (.aload_n 0, 1) := by decide +kernel
theorem dX10_ownerError_14 : decode cX10_ownerError 14 = .ok (.getfield 32, 3) := by decide +kernel
theorem dX10_ownerError_17 : decode cX10_ownerError 17 = .ok (.iload_n 2, 1) := by decide +kernel
theorem dX10_ownerError_18 : decode cX10_ownerError 18 = .ok (.aaload, 1) := by decide +kernel
theorem dX10_ownerError_19 : decode cX10_ownerError 19 = .ok (.iload_n 1, 1) := by decide +kernel
theorem dX10_ownerError_20 : decode cX10_ownerError 20 = .ok (.invokevirtual 141, 3) := by decide +kernel
theorem dX10_ownerError_23 : decode cX10_ownerError 23 = .ok (.ifCond .eq 7, 3) := by decide +kernel
theorem dX10_ownerError_26 : decode cX10_ownerError 26 = .ok (.iconst 0, 1) := by decide +kernel
theorem dX10_ownerError_27 : decode cX10_ownerError 27 = .ok (.goto 5, 3) := by decide +kernel
theorem dX10_ownerError_30 : decode cX10_ownerError 30 = .ok (.bipush (-5), 2) := by decide +kernel
theorem dX10_ownerError_32 : decode cX10_ownerError 32 = .ok (.ireturn, 1) := by decide +kernel
theorem dX10_enterObject_0 : decode cX10_enterObject 0 = .ok (.aload_n 0, 1) := by decide +kernel
theorem dX10_enterObject_1 : decode cX10_enterObject 1 = .ok (.iload_n 1, 1) := by decide +kernel
theorem dX10_enterObject_2 : decode cX10_enterObject 2 = .ok (.iload_n 2, 1) := by decide +kernel
theorem dX10_enterObject_3 : decode cX10_enterObject 3 = .ok (.invokevirtual 138, 3) := by decide +kernel
theorem dX10_enterObject_6 : decode cX10_enterObject 6 = .ok (.istore_n 3, 1) := by decide +kernel
theorem dX10_enterObject_7 : decode cX10_enterObject 7 = .ok (.iload_n 3, 1) := by decide +kernel
theorem dX10_enterObject_8 : decode cX10_enterObject 8 = .ok (.ifCond .eq 5, 3) := by decide +kernel
theorem dX10_enterObject_11 : decode cX10_enterObject 11 = .ok (.iload_n 3, 1) := by decide +kernel
theorem dX10_enterObject_12 : decode cX10_enterObject 12 = .ok (.ireturn, 1) := by decide +kernel
theorem dX10_enterObject_13 : decode cX10_enterObject 13 = .ok (.aload_n 0, 1) := by decide +kernel
theorem dX10_enterObject_14 : decode cX10_enterObject 14 = .ok (.getfield 32, 3) := by decide +kernel
theorem dX10_enterObject_17 : decode cX10_enterObject 17 = .ok (.iload_n 2, 1) := by decide +kernel
theorem dX10_enterObject_18 : decode cX10_enterObject 18 = .ok (.aaload, 1) := by decide +kernel
theorem dX10_enterObject_19 : decode cX10_enterObject 19 = .ok (.astore 4, 2) := by decide +kernel
theorem dX10_enterObject_21 : decode cX10_enterObject 21 = .ok (.aload_n 0, 1) := by decide +kernel
theorem dX10_enterObject_22 : decode cX10_enterObject 22 = .ok (.iload_n 1, 1) := by decide +kernel
theorem dX10_enterObject_23 : decode cX10_enterObject 23 = .ok (.aload 4, 2) := by decide +kernel
theorem dX10_enterObject_25 : decode cX10_enterObject 25 = .ok (.invokevirtual 144, 3) := by decide +kernel
theorem dX10_enterObject_28 : decode cX10_enterObject 28 = .ok (.istore 5, 2) := by decide +kernel
theorem dX10_enterObject_30 : decode cX10_enterObject 30 = .ok (.iload 5, 2) := by decide +kernel
theorem dX10_enterObject_32 : decode cX10_enterObject 32 = .ok (.ifCond .eq 13, 3) := by decide +kernel
theorem dX10_enterObject_35 : decode cX10_enterObject 35 = .ok (.aload_n 0, 1) := by decide +kernel
theorem dX10_enterObject_36 : decode cX10_enterObject 36 = .ok (.invokevirtual 148, 3) := by decide +kernel
theorem dX10_enterObject_39 : decode cX10_enterObject 39 = .ok (.ifCond .ne 6, 3) := by decide +kernel
theorem dX10_enterObject_42 : decode cX10_enterObject 42 = .ok (.bipush (-6), 2) := by decide +kernel
theorem dX10_enterObject_44 : decode cX10_enterObject 44 = .ok (.ireturn, 1) := by decide +kernel
theorem dX10_enterObject_45 : decode cX10_enterObject 45 = .ok (.aload 4, 2) := by decide +kernel
theorem dX10_enterObject_47 : decode cX10_enterObject 47 = .ok (.getfield 152, 3) := by decide +kernel
theorem dX10_enterObject_50 : decode cX10_enterObject 50 = .ok (.iconst 2, 1) := by decide +kernel
theorem dX10_enterObject_51 : decode cX10_enterObject 51 = .ok (.if_icmp .ne 27, 3) := by decide +kernel
theorem dX10_enterObject_54 : decode cX10_enterObject 54 = .ok (.aload 4, 2) := by decide +kernel
theorem dX10_enterObject_56 : decode cX10_enterObject 56 = .ok (.getfield 153, 3) := by decide +kernel
theorem dX10_enterObject_59 : decode cX10_enterObject 59 = .ok (.iload_n 1, 1) := by decide +kernel
theorem dX10_enterObject_60 : decode cX10_enterObject 60 = .ok (.if_icmp .eq 18, 3) := by decide +kernel
theorem dX10_enterObject_63 : decode cX10_enterObject 63 = .ok (.aload_n 0, 1) := by decide +kernel
theorem dX10_enterObject_64 : decode cX10_enterObject 64 = .ok (.aload 4, 2) := by decide +kernel
theorem dX10_enterObject_66 : decode cX10_enterObject 66 = .ok (.invokevirtual 156, 3) := by decide +kernel
theorem dX10_enterObject_69 : decode cX10_enterObject 69 = .ok (.ifCond .eq 9, 3) := by decide +kernel
theorem dX10_enterObject_72 : decode cX10_enterObject 72 = .ok (.aload_n 0, 1) := by decide +kernel
theorem dX10_enterObject_73 : decode cX10_enterObject 73 = .ok (.aload 4, 2) := by decide +kernel
theorem dX10_enterObject_75 : decode cX10_enterObject 75 = .ok (.invokevirtual 160, 3) := by decide +kernel
theorem dX10_enterObject_78 : decode cX10_enterObject 78 = .ok (.iload 5, 2) := by decide +kernel
theorem dX10_enterObject_80 : decode cX10_enterObject 80 = .ok (.ifCond .eq 9, 3) := by decide +kernel
theorem dX10_enterObject_83 : decode cX10_enterObject 83 = .ok (.aload_n 0, 1) := by decide +kernel
theorem dX10_enterObject_84 : decode cX10_enterObject 84 = .ok (.aload 4, 2) := by decide +kernel
theorem dX10_enterObject_86 : decode cX10_enterObject 86 = .ok (.invokevirtual 163, 3) := by decide +kernel
theorem dX10_enterObject_89 : decode cX10_enterObject 89 = .ok (.aload 4, 2) := by decide +kernel
theorem dX10_enterObject_91 : decode cX10_enterObject 91 = .ok (.iload_n 1, 1) := by decide +kernel
theorem dX10_enterObject_92 : decode cX10_enterObject 92 = .ok (.invokevirtual 141, 3) := by decide +kernel
theorem dX10_enterObject_95 : decode cX10_enterObject 95 = .ok (.ifCond .eq 16, 3) := by decide +kernel
theorem dX10_enterObject_98 : decode cX10_enterObject 98 = .ok (.aload 4, 2) := by decide +kernel
theorem dX10_enterObject_100 : decode cX10_enterObject 100 = .ok (.dup, 1) := by decide +kernel
theorem dX10_enterObject_101 : decode cX10_enterObject 101 = .ok (.getfield 166, 3) := by decide +kernel
theorem dX10_enterObject_104 : decode cX10_enterObject 104 = .ok (.iconst 1, 1) := by decide +kernel
theorem dX10_enterObject_105 : decode cX10_enterObject 105 = .ok (.iadd, 1) := by decide +kernel
theorem dX10_enterObject_106 : decode cX10_enterObject 106 = .ok (.putfield 166, 3) := by decide +kernel
theorem dX10_enterObject_109 : decode cX10_enterObject 109 = .ok (.iconst 4, 1) := by decide +kernel
theorem dX10_enterObject_110 : decode cX10_enterObject 110 = .ok (.ireturn, 1) := by decide +kernel
theorem dX10_enterObject_111 : decode cX10_enterObject 111 = .ok (.aload 4, 2) := by decide +kernel
theorem dX10_enterObject_113 : decode cX10_enterObject 113 = .ok (.invokevirtual 169, 3) := by decide +kernel
theorem dX10_enterObject_116 : decode cX10_enterObject 116 = .ok (.ifCond .eq 12, 3) := by decide +kernel
theorem dX10_enterObject_119 : decode cX10_enterObject 119 = .ok (.aload_n 0, 1) := by decide +kernel
theorem dX10_enterObject_120 : decode cX10_enterObject 120 = .ok (.iload_n 1, 1) := by decide +kernel
theorem dX10_enterObject_121 : decode cX10_enterObject 121 = .ok (.aload 4, 2) := by decide +kernel
theorem dX10_enterObject_123 : decode cX10_enterObject 123 = .ok (.invokevirtual 172, 3) := by decide +kernel
theorem dX10_enterObject_126 : decode cX10_enterObject 126 = .ok (.iconst 0, 1) := by decide +kernel
theorem dX10_enterObject_127 : decode cX10_enterObject 127 = .ok (.ireturn, 1) := by decide +kernel
theorem dX10_enterObject_128 : decode cX10_enterObject 128 = .ok (.aload_n 0, 1) := by decide +kernel
theorem dX10_enterObject_129 : decode cX10_enterObject 129 = .ok (.aload 4, 2) := by decide +kernel
theorem dX10_enterObject_131 : decode cX10_enterObject 131 = .ok (.invokevirtual 176, 3) := by decide +kernel
theorem dX10_enterObject_134 : decode cX10_enterObject 134 = .ok (.istore 6, 2) := by decide +kernel
theorem dX10_enterObject_136 : decode cX10_enterObject 136 = .ok (.iload 6, 2) := by decide +kernel
theorem dX10_enterObject_138 : decode cX10_enterObject 138 = .ok (.aload_n 0, 1) := by decide +kernel
theorem dX10_enterObject_139 : decode cX10_enterObject 139 = .ok (.iload_n 1, 1) := by decide +kernel
theorem dX10_enterObject_140 : decode cX10_enterObject 140 = .ok (.aload 4, 2) := by decide +kernel
theorem dX10_enterObject_142 : decode cX10_enterObject 142 = .ok (.invokevirtual 180, 3) := by decide +kernel
theorem dX10_enterObject_145 : decode cX10_enterObject 145 = .ok (.iadd, 1) := by decide +kernel
theorem dX10_enterObject_146 : decode cX10_enterObject 146 = .ok (.ireturn, 1) := by decide +kernel
theorem dX10_entryNeedsMonitor_0 : decode cX10_entryNeedsMonitor 0 = .ok (.aload_n 2, 1) := by decide +kernel
theorem dX10_entryNeedsMonitor_1 : decode cX10_entryNeedsMonitor 1 = .ok (.invokevirtual 169, 3) := by decide +kernel
theorem dX10_entryNeedsMonitor_4 : decode cX10_entryNeedsMonitor 4 = .ok (.ifCond .eq 11, 3) := by decide +kernel
theorem dX10_entryNeedsMonitor_7 : decode cX10_entryNeedsMonitor 7 = .ok (.aload_n 2, 1) := by decide +kernel
theorem dX10_entryNeedsMonitor_8 : decode cX10_entryNeedsMonitor 8 = .ok (.getfield 152, 3) := by decide +kernel
theorem dX10_entryNeedsMonitor_11 : decode cX10_entryNeedsMonitor 11 = .ok (.iconst 4, 1) := by decide +kernel
theorem dX10_entryNeedsMonitor_12 : decode cX10_entryNeedsMonitor 12 = .ok (.if_icmp .ne 5, 3) := by decide +kernel
theorem dX10_entryNeedsMonitor_15 : decode cX10_entryNeedsMonitor 15 = .ok (.iconst 0, 1) := by decide +kernel
theorem dX10_entryNeedsMonitor_16 : decode cX10_entryNeedsMonitor 16 = .ok (.ireturn, 1) := by decide +kernel
theorem dX10_entryNeedsMonitor_17 : decode cX10_entryNeedsMonitor 17 = .ok (.aload_n 2, 1) := by decide +kernel
theorem dX10_entryNeedsMonitor_18 : decode cX10_entryNeedsMonitor 18 = .ok (.getfield 184, 3) := by decide +kernel
theorem dX10_entryNeedsMonitor_21 : decode cX10_entryNeedsMonitor 21 = .ok (.iload_n 1, 1) := by decide +kernel
theorem dX10_entryNeedsMonitor_22 : decode cX10_entryNeedsMonitor 22 = .ok (.if_icmp .eq 5, 3) := by decide +kernel
theorem dX10_entryNeedsMonitor_25 : decode cX10_entryNeedsMonitor 25 = .ok (.iconst 1, 1) := by decide +kernel
theorem dX10_entryNeedsMonitor_26 : decode cX10_entryNeedsMonitor 26 = .ok (.ireturn, 1) := by decide +kernel
theorem dX10_entryNeedsMonitor_27 : decode cX10_entryNeedsMonitor 27 = .ok (.aload_n 2, 1) := by decide +kernel
theorem dX10_entryNeedsMonitor_28 : decode cX10_entryNeedsMonitor 28 = .ok (.getfield 152, 3) := by decide +kernel
theorem dX10_entryNeedsMonitor_31 : decode cX10_entryNeedsMonitor 31 = .ok (.iconst 3, 1) := by decide +kernel
theorem dX10_entryNeedsMonitor_32 : decode cX10_entryNeedsMonitor 32 = .ok (.if_icmp .ne 22, 3) := by decide +kernel
theorem dX10_entryNeedsMonitor_35 : decode cX10_entryNeedsMonitor 35 = .ok (.aload_n 2, 1) := by decide +kernel
theorem dX10_entryNeedsMonitor_36 : decode cX10_entryNeedsMonitor 36 = .ok (.getfield 166, 3) := by decide +kernel
theorem dX10_entryNeedsMonitor_39 : decode cX10_entryNeedsMonitor 39 = .ok (.aload_n 0, 1) := by decide +kernel
theorem dX10_entryNeedsMonitor_40 : decode cX10_entryNeedsMonitor 40 = .ok (.getfield 12, 3) := by decide +kernel
theorem dX10_entryNeedsMonitor_43 : decode cX10_entryNeedsMonitor 43 = .ok (.iconst 4, 1) := by decide +kernel
theorem dX10_entryNeedsMonitor_44 : decode cX10_entryNeedsMonitor 44 = .ok (.invokevirtual 69, 3) := by decide +kernel
theorem dX10_entryNeedsMonitor_47 : decode cX10_entryNeedsMonitor 47 = .ok (.if_icmp .lt 7, 3) := by decide +kernel
theorem dX10_entryNeedsMonitor_50 : decode cX10_entryNeedsMonitor 50 = .ok (.iconst 1, 1) := by decide +kernel
theorem dX10_entryNeedsMonitor_51 : decode cX10_entryNeedsMonitor 51 = .ok (.goto 4, 3) := by decide +kernel
theorem dX10_entryNeedsMonitor_54 : decode cX10_entryNeedsMonitor 54 = .ok (.iconst 0, 1) := by decide +kernel
theorem dX10_entryNeedsMonitor_55 : decode cX10_entryNeedsMonitor 55 = .ok (.ireturn, 1) := by decide +kernel
theorem dX10_take_0 : decode cX10_take 0 = .ok (.aload_n 2, 1) := by decide +kernel
theorem dX10_take_1 : decode cX10_take 1 = .ok (.getfield 152, 3) := by decide +kernel
theorem dX10_take_4 : decode cX10_take 4 = .ok (.tableswitch 59 0 2 #[36, 28, 28], 28) := by decide +kernel
theorem dX10_take_32 : decode cX10_take 32 = .ok (.aload_n 0, 1) := by decide +kernel
theorem dX10_take_33 : decode cX10_take 33 = .ok (.iload_n 1, 1) := by decide +kernel
theorem dX10_take_34 : decode cX10_take 34 = .ok (.aload_n 2, 1) := by decide +kernel
theorem dX10_take_35 : decode cX10_take 35 = .ok (.invokevirtual 187, 3) := by decide +kernel
theorem dX10_take_38 : decode cX10_take 38 = .ok (.iconst 1, 1) := by decide +kernel
theorem dX10_take_39 : decode cX10_take 39 = .ok (.ireturn, 1) := by decide +kernel
theorem dX10_take_40 : decode cX10_take 40 = .ok (.aload_n 2, 1) := by decide +kernel
theorem dX10_take_41 : decode cX10_take 41 = .ok (.iconst 3, 1) := by decide +kernel
theorem dX10_take_42 : decode cX10_take 42 = .ok (.putfield 152, 3) := by decide +kernel
theorem dX10_take_45 : decode cX10_take 45 = .ok (.aload_n 2, 1) := by decide +kernel
theorem dX10_take_46 : decode cX10_take 46 = .ok (.iload_n 1, 1) := by decide +kernel
theorem dX10_take_47 : decode cX10_take 47 = .ok (.iconst 1, 1) := by decide +kernel
theorem dX10_take_48 : decode cX10_take 48 = .ok (.invokevirtual 190, 3) := by decide +kernel
theorem dX10_take_51 : decode cX10_take 51 = .ok (.aload_n 0, 1) := by decide +kernel
theorem dX10_take_52 : decode cX10_take 52 = .ok (.getfield 20, 3) := by decide +kernel
theorem dX10_take_55 : decode cX10_take 55 = .ok (.iconst 0, 1) := by decide +kernel
theorem dX10_take_56 : decode cX10_take 56 = .ok (.dup2, 1) := by decide +kernel
theorem dX10_take_57 : decode cX10_take 57 = .ok (.iaload, 1) := by decide +kernel
theorem dX10_take_58 : decode cX10_take 58 = .ok (.iconst 1, 1) := by decide +kernel
theorem dX10_take_59 : decode cX10_take 59 = .ok (.iadd, 1) := by decide +kernel
theorem dX10_take_60 : decode cX10_take 60 = .ok (.iastore, 1) := by decide +kernel
theorem dX10_take_61 : decode cX10_take 61 = .ok (.iconst 2, 1) := by decide +kernel
theorem dX10_take_62 : decode cX10_take 62 = .ok (.ireturn, 1) := by decide +kernel
theorem dX10_take_63 : decode cX10_take 63 = .ok (.aload_n 2, 1) := by decide +kernel
theorem dX10_take_64 : decode cX10_take 64 = .ok (.iload_n 1, 1) := by decide +kernel
theorem dX10_take_65 : decode cX10_take 65 = .ok (.iconst 1, 1) := by decide +kernel
theorem dX10_take_66 : decode cX10_take 66 = .ok (.invokevirtual 190, 3) := by decide +kernel
theorem dX10_take_69 : decode cX10_take 69 = .ok (.aload_n 0, 1) := by decide +kernel
theorem dX10_take_70 : decode cX10_take 70 = .ok (.getfield 20, 3) := by decide +kernel
theorem dX10_take_73 : decode cX10_take 73 = .ok (.iconst 0, 1) := by decide +kernel
theorem dX10_take_74 : decode cX10_take 74 = .ok (.dup2, 1) := by decide +kernel
theorem dX10_take_75 : decode cX10_take 75 = .ok (.iaload, 1) := by decide +kernel
theorem dX10_take_76 : decode cX10_take 76 = .ok (.iconst 1, 1) := by decide +kernel
theorem dX10_take_77 : decode cX10_take 77 = .ok (.iadd, 1) := by decide +kernel
theorem dX10_take_78 : decode cX10_take 78 = .ok (.iastore, 1) := by decide +kernel
theorem dX10_take_79 : decode cX10_take 79 = .ok (.aload_n 2, 1) := by decide +kernel
theorem dX10_take_80 : decode cX10_take 80 = .ok (.getfield 194, 3) := by decide +kernel
theorem dX10_take_83 : decode cX10_take 83 = .ok (.invokevirtual 198, 3) := by decide +kernel
theorem dX10_take_86 : decode cX10_take 86 = .ok (.ifCond .ne 14, 3) := by decide +kernel
theorem dX10_take_89 : decode cX10_take 89 = .ok (.aload_n 0, 1) := by decide +kernel
theorem dX10_take_90 : decode cX10_take 90 = .ok (.getfield 20, 3) := by decide +kernel
theorem dX10_take_93 : decode cX10_take 93 = .ok (.bipush 7, 2) := by decide +kernel
theorem dX10_take_95 : decode cX10_take 95 = .ok (.dup2, 1) := by decide +kernel
theorem dX10_take_96 : decode cX10_take 96 = .ok (.iaload, 1) := by decide +kernel
theorem dX10_take_97 : decode cX10_take 97 = .ok (.iconst 1, 1) := by decide +kernel
theorem dX10_take_98 : decode cX10_take 98 = .ok (.iadd, 1) := by decide +kernel
theorem dX10_take_99 : decode cX10_take 99 = .ok (.iastore, 1) := by decide +kernel
theorem dX10_take_100 : decode cX10_take 100 = .ok (.iconst 3, 1) := by decide +kernel
theorem dX10_take_101 : decode cX10_take 101 = .ok (.ireturn, 1) := by decide +kernel
theorem dX10_takeBiased_0 : decode cX10_takeBiased 0 = .ok (.aload_n 2, 1) := by decide +kernel
theorem dX10_takeBiased_1 : decode cX10_takeBiased 1 = .ok (.iload_n 1, 1) := by decide +kernel
theorem dX10_takeBiased_2 : decode cX10_takeBiased 2 = .ok (.iconst 1, 1) := by decide +kernel
theorem dX10_takeBiased_3 : decode cX10_takeBiased 3 = .ok (.invokevirtual 190, 3) := by decide +kernel
theorem dX10_takeBiased_6 : decode cX10_takeBiased 6 = .ok (.aload_n 2, 1) := by decide +kernel
theorem dX10_takeBiased_7 : decode cX10_takeBiased 7 = .ok (.getfield 152, 3) := by decide +kernel
theorem dX10_takeBiased_10 : decode cX10_takeBiased 10 = .ok (.iconst 2, 1) := by decide +kernel
theorem dX10_takeBiased_11 : decode cX10_takeBiased 11 = .ok (.if_icmp .ne 20, 3) := by decide +kernel
theorem dX10_takeBiased_14 : decode cX10_takeBiased 14 = .ok (.aload_n 2, 1) := by decide +kernel
theorem dX10_takeBiased_15 : decode cX10_takeBiased 15 = .ok (.getfield 153, 3) := by decide +kernel
theorem dX10_takeBiased_18 : decode cX10_takeBiased 18 = .ok (.iload_n 1, 1) := by decide +kernel
theorem dX10_takeBiased_19 : decode cX10_takeBiased 19 = .ok (.if_icmp .ne 12, 3) := by decide +kernel
theorem dX10_takeBiased_22 : decode cX10_takeBiased 22 = .ok (.aload_n 0, 1) := by decide +kernel
theorem dX10_takeBiased_23 : decode cX10_takeBiased 23 = .ok (.aload_n 2, 1) := by decide +kernel
theorem dX10_takeBiased_24 : decode cX10_takeBiased 24 = .ok (.invokevirtual 156, 3) := by decide +kernel
theorem dX10_takeBiased_27 : decode cX10_takeBiased 27 = .ok (.ifCond .eq 4, 3) := by decide +kernel
theorem dX10_takeBiased_30 : decode cX10_takeBiased 30 = .ok (.return_, 1) := by decide +kernel
theorem dX10_takeBiased_31 : decode cX10_takeBiased 31 = .ok (.aload_n 2, 1) := by decide +kernel
theorem dX10_takeBiased_32 : decode cX10_takeBiased 32 = .ok (.iconst 2, 1) := by decide +kernel
theorem dX10_takeBiased_33 : decode cX10_takeBiased 33 = .ok (.putfield 152, 3) := by decide +kernel
theorem dX10_takeBiased_36 : decode cX10_takeBiased 36 = .ok (.aload_n 2, 1) := by decide +kernel
theorem dX10_takeBiased_37 : decode cX10_takeBiased 37 = .ok (.iload_n 1, 1) := by decide +kernel
theorem dX10_takeBiased_38 : decode cX10_takeBiased 38 = .ok (.putfield 153, 3) := by decide +kernel
theorem dX10_takeBiased_41 : decode cX10_takeBiased 41 = .ok (.aload_n 2, 1) := by decide +kernel
theorem dX10_takeBiased_42 : decode cX10_takeBiased 42 = .ok (.aload_n 0, 1) := by decide +kernel
theorem dX10_takeBiased_43 : decode cX10_takeBiased 43 = .ok (.getfield 38, 3) := by decide +kernel
theorem dX10_takeBiased_46 : decode cX10_takeBiased 46 = .ok (.aload_n 2, 1) := by decide +kernel
theorem dX10_takeBiased_47 : decode cX10_takeBiased 47 = .ok (.getfield 203, 3) := by decide +kernel
theorem dX10_takeBiased_50 : decode cX10_takeBiased 50 = .ok (.aaload, 1) := by decide +kernel
theorem dX10_takeBiased_51 : decode cX10_takeBiased 51 = .ok (.getfield 206, 3) := by decide +kernel
theorem dX10_takeBiased_54 : decode cX10_takeBiased 54 = .ok (.putfield 209, 3) := by decide +kernel
theorem dX10_takeBiased_57 : decode cX10_takeBiased 57 = .ok (.aload_n 0, 1) := by decide +kernel
theorem dX10_takeBiased_58 : decode cX10_takeBiased 58 = .ok (.getfield 20, 3) := by decide +kernel
theorem dX10_takeBiased_61 : decode cX10_takeBiased 61 = .ok (.iconst 0, 1) := by decide +kernel
theorem dX10_takeBiased_62 : decode cX10_takeBiased 62 = .ok (.dup2, 1) := by decide +kernel
theorem dX10_takeBiased_63 : decode cX10_takeBiased 63 = .ok (.iaload, 1) := by decide +kernel
theorem dX10_takeBiased_64 : decode cX10_takeBiased 64 = .ok (.iconst 1, 1) := by decide +kernel
theorem dX10_takeBiased_65 : decode cX10_takeBiased 65 = .ok (.iadd, 1) := by decide +kernel
theorem dX10_takeBiased_66 : decode cX10_takeBiased 66 = .ok (.iastore, 1) := by decide +kernel
theorem dX10_takeBiased_67 : decode cX10_takeBiased 67 = .ok (.return_, 1) := by decide +kernel
theorem dX10_block_0 : decode cX10_block 0 = .ok (.aload_n 2, 1) := by decide +kernel
theorem dX10_block_1 : decode cX10_block 1 = .ok (.getfield 194, 3) := by decide +kernel
theorem dX10_block_4 : decode cX10_block 4 = .ok (.iload_n 1, 1) := by decide +kernel
theorem dX10_block_5 : decode cX10_block 5 = .ok (.invokevirtual 210, 3) := by decide +kernel
theorem dX10_block_8 : decode cX10_block 8 = .ok (.aload_n 0, 1) := by decide +kernel
theorem dX10_block_9 : decode cX10_block 9 = .ok (.getfield 26, 3) := by decide +kernel
theorem dX10_block_12 : decode cX10_block 12 = .ok (.iload_n 1, 1) := by decide +kernel
theorem dX10_block_13 : decode cX10_block 13 = .ok (.aaload, 1) := by decide +kernel
theorem dX10_block_14 : decode cX10_block 14 = .ok (.astore_n 3, 1) := by decide +kernel
theorem dX10_block_15 : decode cX10_block 15 = .ok (.aload_n 3, 1) := by decide +kernel
theorem dX10_block_16 : decode cX10_block 16 = .ok (.iconst 1, 1) := by decide +kernel
theorem dX10_block_17 : decode cX10_block 17 = .ok (.putfield 135, 3) := by decide +kernel
theorem dX10_block_20 : decode cX10_block 20 = .ok (.aload_n 3, 1) := by decide +kernel
theorem dX10_block_21 : decode cX10_block 21 = .ok (.aload_n 2, 1) := by decide +kernel
theorem dX10_block_22 : decode cX10_block 22 = .ok (.getfield 213, 3) := by decide +kernel
theorem dX10_block_25 : decode cX10_block 25 = .ok (.putfield 216, 3) := by decide +kernel
theorem dX10_block_28 : decode cX10_block 28 = .ok (.aload_n 3, 1) := by decide +kernel
theorem dX10_block_29 : decode cX10_block 29 = .ok (.iconst 1, 1) := by decide +kernel
theorem dX10_block_30 : decode cX10_block 30 = .ok (.putfield 219, 3) := by decide +kernel
theorem dX10_block_33 : decode cX10_block 33 = .ok (.aload_n 0, 1) := by decide +kernel
theorem dX10_block_34 : decode cX10_block 34 = .ok (.getfield 20, 3) := by decide +kernel
theorem dX10_block_37 : decode cX10_block 37 = .ok (.iconst 4, 1) := by decide +kernel
theorem dX10_block_38 : decode cX10_block 38 = .ok (.dup2, 1) := by decide +kernel
theorem dX10_block_39 : decode cX10_block 39 = .ok (.iaload, 1) := by decide +kernel
theorem dX10_block_40 : decode cX10_block 40 = .ok (.iconst 1, 1) := by decide +kernel
theorem dX10_block_41 : decode cX10_block 41 = .ok (.iadd, 1) := by decide +kernel
theorem dX10_block_42 : decode cX10_block 42 = .ok (.iastore, 1) := by decide +kernel
theorem dX10_block_43 : decode cX10_block 43 = .ok (.return_, 1) := by decide +kernel
theorem dX10_recover_0 : decode cX10_recover 0 = .ok (.aload_n 1, 1) := by decide +kernel
theorem dX10_recover_1 : decode cX10_recover 1 = .ok (.getfield 222, 3) := by decide +kernel
theorem dX10_recover_4 : decode cX10_recover 4 = .ok (.ifCond .ne 5, 3) := by decide +kernel
theorem dX10_recover_7 : decode cX10_recover 7 = .ok (.iconst 0, 1) := by decide +kernel
theorem dX10_recover_8 : decode cX10_recover 8 = .ok (.ireturn, 1) := by decide +kernel
theorem dX10_recover_9 : decode cX10_recover 9 = .ok (.aload_n 1, 1) := by decide +kernel
theorem dX10_recover_10 : decode cX10_recover 10 = .ok (.iconst 0, 1) := by decide +kernel
theorem dX10_recover_11 : decode cX10_recover 11 = .ok (.putfield 222, 3) := by decide +kernel
theorem dX10_recover_14 : decode cX10_recover 14 = .ok (.aload_n 0, 1) := by decide +kernel
theorem dX10_recover_15 : decode cX10_recover 15 = .ok (.getfield 20, 3) := by decide +kernel
theorem dX10_recover_18 : decode cX10_recover 18 = .ok (.bipush 8, 2) := by decide +kernel
theorem dX10_recover_20 : decode cX10_recover 20 = .ok (.dup2, 1) := by decide +kernel
theorem dX10_recover_21 : decode cX10_recover 21 = .ok (.iaload, 1) := by decide +kernel
theorem dX10_recover_22 : decode cX10_recover 22 = .ok (.iconst 1, 1) := by decide +kernel
theorem dX10_recover_23 : decode cX10_recover 23 = .ok (.iadd, 1) := by decide +kernel
theorem dX10_recover_24 : decode cX10_recover 24 = .ok (.iastore, 1) := by decide +kernel
theorem dX10_recover_25 : decode cX10_recover 25 = .ok (.bipush 10, 2) := by decide +kernel
theorem dX10_recover_27 : decode cX10_recover 27 = .ok (.ireturn, 1) := by decide +kernel
theorem dX10_biasIsValid_0 : decode cX10_biasIsValid 0 = .ok (.aload_n 1, 1) := by decide +kernel
theorem dX10_biasIsValid_1 : decode cX10_biasIsValid 1 = .ok (.getfield 209, 3) := by decide +kernel
theorem dX10_biasIsValid_4 : decode cX10_biasIsValid 4 = .ok (.aload_n 0, 1) := by decide +kernel
theorem dX10_biasIsValid_5 : decode cX10_biasIsValid 5 = .ok (.getfield 38, 3) := by decide +kernel
theorem dX10_biasIsValid_8 : decode cX10_biasIsValid 8 = .ok (.aload_n 1, 1) := by decide +kernel
theorem dX10_biasIsValid_9 : decode cX10_biasIsValid 9 = .ok (.getfield 203, 3) := by decide +kernel
theorem dX10_biasIsValid_12 : decode cX10_biasIsValid 12 = .ok (.aaload, 1) := by decide +kernel
theorem dX10_biasIsValid_13 : decode cX10_biasIsValid 13 = .ok (.getfield 206, 3) := by decide +kernel
theorem dX10_biasIsValid_16 : decode cX10_biasIsValid 16 = .ok (.if_icmp .ne 7, 3) := by decide +kernel
theorem dX10_biasIsValid_19 : decode cX10_biasIsValid 19 = .ok (.iconst 1, 1) := by decide +kernel
theorem dX10_biasIsValid_20 : decode cX10_biasIsValid 20 = .ok (.goto 4, 3) := by decide +kernel
theorem dX10_biasIsValid_23 : decode cX10_biasIsValid 23 = .ok (.iconst 0, 1) := by decide +kernel
theorem dX10_biasIsValid_24 : decode cX10_biasIsValid 24 = .ok (.ireturn, 1) := by decide +kernel
theorem dX10_revokeBias_0 : decode cX10_revokeBias 0 = .ok (.aload_n 0, 1) := by decide +kernel
theorem dX10_revokeBias_1 : decode cX10_revokeBias 1 = .ok (.getfield 38, 3) := by decide +kernel
theorem dX10_revokeBias_4 : decode cX10_revokeBias 4 = .ok (.aload_n 1, 1) := by decide +kernel
theorem dX10_revokeBias_5 : decode cX10_revokeBias 5 = .ok (.getfield 203, 3) := by decide +kernel
theorem dX10_revokeBias_8 : decode cX10_revokeBias 8 = .ok (.aaload, 1) := by decide +kernel
theorem dX10_revokeBias_9 : decode cX10_revokeBias 9 = .ok (.astore_n 2, 1) := by decide +kernel
theorem dX10_revokeBias_10 : decode cX10_revokeBias 10 = .ok (.aload_n 2, 1) := by decide +kernel
theorem dX10_revokeBias_11 : decode cX10_revokeBias 11 = .ok (.dup, 1) := by decide +kernel
theorem dX10_revokeBias_12 : decode cX10_revokeBias 12 = .ok (.getfield 226, 3) := by decide +kernel
theorem dX10_revokeBias_15 : decode cX10_revokeBias 15 = .ok (.iconst 1, 1) := by decide +kernel
theorem dX10_revokeBias_16 : decode cX10_revokeBias 16 = .ok (.iadd, 1) := by decide +kernel
theorem dX10_revokeBias_17 : decode cX10_revokeBias 17 = .ok (.putfield 226, 3) := by decide +kernel
theorem dX10_revokeBias_20 : decode cX10_revokeBias 20 = .ok (.aload_n 0, 1) := by decide +kernel
theorem dX10_revokeBias_21 : decode cX10_revokeBias 21 = .ok (.getfield 20, 3) := by decide +kernel
theorem dX10_revokeBias_24 : decode cX10_revokeBias 24 = .ok (.iconst 1, 1) := by decide +kernel
theorem dX10_revokeBias_25 : decode cX10_revokeBias 25 = .ok (.dup2, 1) := by decide +kernel
theorem dX10_revokeBias_26 : decode cX10_revokeBias 26 = .ok (.iaload, 1) := by decide +kernel
theorem dX10_revokeBias_27 : decode cX10_revokeBias 27 = .ok (.iconst 1, 1) := by decide +kernel
theorem dX10_revokeBias_28 : decode cX10_revokeBias 28 = .ok (.iadd, 1) := by decide +kernel
theorem dX10_revokeBias_29 : decode cX10_revokeBias 29 = .ok (.iastore, 1) := by decide +kernel
theorem dX10_revokeBias_30 : decode cX10_revokeBias 30 = .ok (.aload_n 2, 1) := by decide +kernel
theorem dX10_revokeBias_31 : decode cX10_revokeBias 31 = .ok (.getfield 226, 3) := by decide +kernel
theorem dX10_revokeBias_34 : decode cX10_revokeBias 34 = .ok (.aload_n 0, 1) := by decide +kernel
theorem dX10_revokeBias_35 : decode cX10_revokeBias 35 = .ok (.getfield 12, 3) := by decide +kernel
theorem dX10_revokeBias_38 : decode cX10_revokeBias 38 = .ok (.iconst 3, 1) := by decide +kernel
theorem dX10_revokeBias_39 : decode cX10_revokeBias 39 = .ok (.invokevirtual 69, 3) := by decide +kernel
theorem dX10_revokeBias_42 : decode cX10_revokeBias 42 = .ok (.if_icmp .lt 14, 3) := by decide +kernel
theorem dX10_revokeBias_45 : decode cX10_revokeBias 45 = .ok (.aload_n 0, 1) := by decide +kernel
theorem dX10_revokeBias_46 : decode cX10_revokeBias 46 = .ok (.aload_n 1, 1) := by decide +kernel
theorem dX10_revokeBias_47 : decode cX10_revokeBias 47 = .ok (.getfield 203, 3) := by decide +kernel
theorem dX10_revokeBias_50 : decode cX10_revokeBias 50 = .ok (.invokevirtual 229, 3) := by decide +kernel
theorem dX10_revokeBias_53 : decode cX10_revokeBias 53 = .ok (.goto 44, 3) := by decide +kernel
theorem dX10_revokeBias_56 : decode cX10_revokeBias 56 = .ok (.aload_n 2, 1) := by decide +kernel
theorem dX10_revokeBias_57 : decode cX10_revokeBias 57 = .ok (.getfield 226, 3) := by decide +kernel
theorem dX10_revokeBias_60 : decode cX10_revokeBias 60 = .ok (.aload_n 0, 1) := by decide +kernel
theorem dX10_revokeBias_61 : decode cX10_revokeBias 61 = .ok (.getfield 12, 3) := by decide +kernel
theorem dX10_revokeBias_64 : decode cX10_revokeBias 64 = .ok (.iconst 2, 1) := by decide +kernel
theorem dX10_revokeBias_65 : decode cX10_revokeBias 65 = .ok (.invokevirtual 69, 3) := by decide +kernel
theorem dX10_revokeBias_68 : decode cX10_revokeBias 68 = .ok (.if_icmp .ne 25, 3) := by decide +kernel
theorem dX10_revokeBias_71 : decode cX10_revokeBias 71 = .ok (.aload_n 0, 1) := by decide +kernel
theorem dX10_revokeBias_72 : decode cX10_revokeBias 72 = .ok (.aload_n 1, 1) := by decide +kernel
theorem dX10_revokeBias_73 : decode cX10_revokeBias 73 = .ok (.getfield 203, 3) := by decide +kernel
theorem dX10_revokeBias_76 : decode cX10_revokeBias 76 = .ok (.invokevirtual 232, 3) := by decide +kernel
theorem dX10_revokeBias_79 : decode cX10_revokeBias 79 = .ok (.aload_n 1, 1) := by decide +kernel
theorem dX10_revokeBias_80 : decode cX10_revokeBias 80 = .ok (.invokevirtual 169, 3) := by decide +kernel
theorem dX10_revokeBias_83 : decode cX10_revokeBias 83 = .ok (.ifCond .eq 14, 3) := by decide +kernel
theorem dX10_revokeBias_86 : decode cX10_revokeBias 86 = .ok (.aload_n 1, 1) := by decide +kernel
theorem dX10_revokeBias_87 : decode cX10_revokeBias 87 = .ok (.invokevirtual 235, 3) := by decide +kernel
theorem dX10_revokeBias_90 : decode cX10_revokeBias 90 = .ok (.goto 7, 3) := by decide +kernel
theorem dX10_revokeBias_93 : decode cX10_revokeBias 93 = .ok (.aload_n 1, 1) := by decide +kernel
theorem dX10_revokeBias_94 : decode cX10_revokeBias 94 = .ok (.invokevirtual 235, 3) := by decide +kernel
theorem dX10_revokeBias_97 : decode cX10_revokeBias 97 = .ok (.return_, 1) := by decide +kernel
theorem dX10_endBiasing_0 : decode cX10_endBiasing 0 = .ok (.aload_n 0, 1) := by decide +kernel
theorem dX10_endBiasing_1 : decode cX10_endBiasing 1 = .ok (.getfield 38, 3) := by decide +kernel
theorem dX10_endBiasing_4 : decode cX10_endBiasing 4 = .ok (.iload_n 1, 1) := by decide +kernel
theorem dX10_endBiasing_5 : decode cX10_endBiasing 5 = .ok (.aaload, 1) := by decide +kernel
theorem dX10_endBiasing_6 : decode cX10_endBiasing 6 = .ok (.iconst 0, 1) := by decide +kernel
theorem dX10_endBiasing_7 : decode cX10_endBiasing 7 = .ok (.putfield 238, 3) := by decide +kernel
theorem dX10_endBiasing_10 : decode cX10_endBiasing 10 = .ok (.iload_n 1, 1) := by decide +kernel
theorem dX10_endBiasing_11 : decode cX10_endBiasing 11 = .ok (.istore_n 2, 1) := by decide +kernel
theorem dX10_endBiasing_12 : decode cX10_endBiasing 12 = .ok (.iload_n 2, 1) := by decide +kernel
theorem dX10_endBiasing_13 : decode cX10_endBiasing 13 = .ok (.bipush 8, 2) := by decide +kernel
theorem dX10_endBiasing_15 : decode cX10_endBiasing 15 = .ok (.if_icmp .ge 36, 3) := by decide +kernel
theorem dX10_endBiasing_18 : decode cX10_endBiasing 18 = .ok (.aload_n 0, 1) := by decide +kernel
theorem dX10_endBiasing_19 : decode cX10_endBiasing 19 = .ok (.getfield 32, 3) := by decide +kernel
theorem dX10_endBiasing_22 : decode cX10_endBiasing 22 = .ok (.iload_n 2, 1) := by decide +kernel
theorem dX10_endBiasing_23 : decode cX10_endBiasing 23 = .ok (.aaload, 1) := by decide +kernel
theorem dX10_endBiasing_24 : decode cX10_endBiasing 24 = .ok (.astore_n 3, 1) := by decide +kernel
theorem dX10_endBiasing_25 : decode cX10_endBiasing 25 = .ok (.aload_n 3, 1) := by decide +kernel
theorem dX10_endBiasing_26 : decode cX10_endBiasing 26 = .ok (.getfield 152, 3) := by decide +kernel
theorem dX10_endBiasing_29 : decode cX10_endBiasing 29 = .ok (.iconst 1, 1) := by decide +kernel
theorem dX10_endBiasing_30 : decode cX10_endBiasing 30 = .ok (.if_icmp .eq 11, 3) := by decide +kernel
theorem dX10_endBiasing_33 : decode cX10_endBiasing 33 = .ok (.aload_n 3, 1) := by decide +kernel
theorem dX10_endBiasing_34 : decode cX10_endBiasing 34 = .ok (.getfield 152, 3) := by decide +kernel
theorem dX10_endBiasing_37 : decode cX10_endBiasing 37 = .ok (.iconst 2, 1) := by decide +kernel
theorem dX10_endBiasing_38 : decode cX10_endBiasing 38 = .ok (.if_icmp .ne 7, 3) := by decide +kernel
theorem dX10_endBiasing_41 : decode cX10_endBiasing 41 = .ok (.aload_n 3, 1) := by decide +kernel
theorem dX10_endBiasing_42 : decode cX10_endBiasing 42 = .ok (.invokevirtual 235, 3) := by decide +kernel
theorem dX10_endBiasing_45 : decode cX10_endBiasing 45 = .ok (.iinc 2 3, 3) := by decide +kernel
theorem dX10_endBiasing_48 : decode cX10_endBiasing 48 = .ok (.goto (-36), 3) := by decide +kernel
theorem dX10_endBiasing_51 : decode cX10_endBiasing 51 = .ok (.return_, 1) := by decide +kernel
theorem dX10_beginEpoch_0 : decode cX10_beginEpoch 0 = .ok (.aload_n 0, 1) := by decide +kernel
theorem dX10_beginEpoch_1 : decode cX10_beginEpoch 1 = .ok (.getfield 38, 3) := by decide +kernel
theorem dX10_beginEpoch_4 : decode cX10_beginEpoch 4 = .ok (.iload_n 1, 1) := by decide +kernel
theorem dX10_beginEpoch_5 : decode cX10_beginEpoch 5 = .ok (.aaload, 1) := by decide +kernel
theorem dX10_beginEpoch_6 : decode cX10_beginEpoch 6 = .ok (.dup, 1) := by decide +kernel
theorem dX10_beginEpoch_7 : decode cX10_beginEpoch 7 = .ok (.getfield 206, 3) := by decide +kernel
theorem dX10_beginEpoch_10 : decode cX10_beginEpoch 10 = .ok (.iconst 1, 1) := by decide +kernel
theorem dX10_beginEpoch_11 : decode cX10_beginEpoch 11 = .ok (.iadd, 1) := by decide +kernel
theorem dX10_beginEpoch_12 : decode cX10_beginEpoch 12 = .ok (.putfield 206, 3) := by decide +kernel
theorem dX10_beginEpoch_15 : decode cX10_beginEpoch 15 = .ok (.iload_n 1, 1) := by decide +kernel
theorem dX10_beginEpoch_16 : decode cX10_beginEpoch 16 = .ok (.istore_n 2, 1) := by decide +kernel
theorem dX10_beginEpoch_17 : decode cX10_beginEpoch 17 = .ok (.iload_n 2, 1) := by decide +kernel
theorem dX10_beginEpoch_18 : decode cX10_beginEpoch 18 = .ok (.bipush 8, 2) := by decide +kernel
theorem dX10_beginEpoch_20 : decode cX10_beginEpoch 20 = .ok (.if_icmp .ge 44, 3) := by decide +kernel
theorem dX10_beginEpoch_23 : decode cX10_beginEpoch 23 = .ok (.aload_n 0, 1) := by decide +kernel
theorem dX10_beginEpoch_24 : decode cX10_beginEpoch 24 = .ok (.getfield 32, 3) := by decide +kernel
theorem dX10_beginEpoch_27 : decode cX10_beginEpoch 27 = .ok (.iload_n 2, 1) := by decide +kernel
theorem dX10_beginEpoch_28 : decode cX10_beginEpoch 28 = .ok (.aaload, 1) := by decide +kernel
theorem dX10_beginEpoch_29 : decode cX10_beginEpoch 29 = .ok (.astore_n 3, 1) := by decide +kernel
theorem dX10_beginEpoch_30 : decode cX10_beginEpoch 30 = .ok (.aload_n 3, 1) := by decide +kernel
theorem dX10_beginEpoch_31 : decode cX10_beginEpoch 31 = .ok (.getfield 152, 3) := by decide +kernel
theorem dX10_beginEpoch_34 : decode cX10_beginEpoch 34 = .ok (.iconst 2, 1) := by decide +kernel
theorem dX10_beginEpoch_35 : decode cX10_beginEpoch 35 = .ok (.if_icmp .ne 23, 3) := by decide +kernel
theorem dX10_beginEpoch_38 : decode cX10_beginEpoch 38 = .ok (.aload_n 3, 1) := by decide +kernel
theorem dX10_beginEpoch_39 : decode cX10_beginEpoch 39 = .ok (.invokevirtual 169, 3) := by decide +kernel
theorem dX10_beginEpoch_42 : decode cX10_beginEpoch 42 = .ok (.ifCond .eq 16, 3) := by decide +kernel
theorem dX10_beginEpoch_45 : decode cX10_beginEpoch 45 = .ok (.aload_n 3, 1) := by decide +kernel
theorem dX10_beginEpoch_46 : decode cX10_beginEpoch 46 = .ok (.aload_n 0, 1) := by decide +kernel
theorem dX10_beginEpoch_47 : decode cX10_beginEpoch 47 = .ok (.getfield 38, 3) := by decide +kernel
theorem dX10_beginEpoch_50 : decode cX10_beginEpoch 50 = .ok (.iload_n 1, 1) := by decide +kernel
theorem dX10_beginEpoch_51 : decode cX10_beginEpoch 51 = .ok (.aaload, 1) := by decide +kernel
theorem dX10_beginEpoch_52 : decode cX10_beginEpoch 52 = .ok (.getfield 206, 3) := by decide +kernel
theorem dX10_beginEpoch_55 : decode cX10_beginEpoch 55 = .ok (.putfield 209, 3) := by decide +kernel
theorem dX10_beginEpoch_58 : decode cX10_beginEpoch 58 = .ok (.iinc 2 3, 3) := by decide +kernel
theorem dX10_beginEpoch_61 : decode cX10_beginEpoch 61 = .ok (.goto (-44), 3) := by decide +kernel
theorem dX10_beginEpoch_64 : decode cX10_beginEpoch 64 = .ok (.return_, 1) := by decide +kernel
theorem dX10_monitorsInUse_0 : decode cX10_monitorsInUse 0 = .ok (.iconst 0, 1) := by decide +kernel
theorem dX10_monitorsInUse_1 : decode cX10_monitorsInUse 1 = .ok (.istore_n 1, 1) := by decide +kernel
theorem dX10_monitorsInUse_2 : decode cX10_monitorsInUse 2 = .ok (.aload_n 0, 1) := by decide +kernel
theorem dX10_monitorsInUse_3 : decode cX10_monitorsInUse 3 = .ok (.getfield 32, 3) := by decide +kernel
theorem dX10_monitorsInUse_6 : decode cX10_monitorsInUse 6 = .ok (.astore_n 2, 1) := by decide +kernel
theorem dX10_monitorsInUse_7 : decode cX10_monitorsInUse 7 = .ok (.aload_n 2, 1) := by decide +kernel
theorem dX10_monitorsInUse_8 : decode cX10_monitorsInUse 8 = .ok (.arraylength, 1) := by decide +kernel
theorem dX10_monitorsInUse_9 : decode cX10_monitorsInUse 9 = .ok (.istore_n 3, 1) := by decide +kernel
theorem dX10_monitorsInUse_10 : decode cX10_monitorsInUse 10 = .ok (.iconst 0, 1) := by decide +kernel
theorem dX10_monitorsInUse_11 : decode cX10_monitorsInUse 11 = .ok (.istore 4, 2) := by decide +kernel
theorem dX10_monitorsInUse_13 : decode cX10_monitorsInUse 13 = .ok (.iload 4, 2) := by decide +kernel
theorem dX10_monitorsInUse_15 : decode cX10_monitorsInUse 15 = .ok (.iload_n 3, 1) := by decide +kernel
theorem dX10_monitorsInUse_16 : decode cX10_monitorsInUse 16 = .ok (.if_icmp .ge 27, 3) := by decide +kernel
theorem dX10_monitorsInUse_19 : decode cX10_monitorsInUse 19 = .ok (.aload_n 2, 1) := by decide +kernel
theorem dX10_monitorsInUse_20 : decode cX10_monitorsInUse 20 = .ok (.iload 4, 2) := by decide +kernel
theorem dX10_monitorsInUse_22 : decode cX10_monitorsInUse 22 = .ok (.aaload, 1) := by decide +kernel
theorem dX10_monitorsInUse_23 : decode cX10_monitorsInUse 23 = .ok (.astore 5, 2) := by decide +kernel
theorem dX10_monitorsInUse_25 : decode cX10_monitorsInUse 25 = .ok (.aload 5, 2) := by decide +kernel
theorem dX10_monitorsInUse_27 : decode cX10_monitorsInUse 27 = .ok (.getfield 152, 3) := by decide +kernel
theorem dX10_monitorsInUse_30 : decode cX10_monitorsInUse 30 = .ok (.iconst 4, 1) := by decide +kernel
theorem dX10_monitorsInUse_31 : decode cX10_monitorsInUse 31 = .ok (.if_icmp .ne 6, 3) := by decide +kernel
theorem dX10_monitorsInUse_34 : decode cX10_monitorsInUse 34 = .ok (.iinc 1 1, 3) := by decide +kernel
theorem dX10_monitorsInUse_37 : decode cX10_monitorsInUse 37 = .ok (.iinc 4 1, 3) := by decide +kernel
theorem dX10_monitorsInUse_40 : decode cX10_monitorsInUse 40 = .ok (.goto (-27), 3) := by decide +kernel
theorem dX10_monitorsInUse_43 : decode cX10_monitorsInUse 43 = .ok (.iload_n 1, 1) := by decide +kernel
theorem dX10_monitorsInUse_44 : decode cX10_monitorsInUse 44 = .ok (.ireturn, 1) := by decide +kernel
theorem dX10_monitorIsFree_0 : decode cX10_monitorIsFree 0 = .ok (.aload_n 0, 1) := by decide +kernel
theorem dX10_monitorIsFree_1 : decode cX10_monitorIsFree 1 = .ok (.invokevirtual 241, 3) := by decide +kernel
theorem dX10_monitorIsFree_4 : decode cX10_monitorIsFree 4 = .ok (.aload_n 0, 1) := by decide +kernel
theorem dX10_monitorIsFree_5 : decode cX10_monitorIsFree 5 = .ok (.getfield 12, 3) := by decide +kernel
theorem dX10_monitorIsFree_8 : decode cX10_monitorIsFree 8 = .ok (.bipush 6, 2) := by decide +kernel
theorem dX10_monitorIsFree_10 : decode cX10_monitorIsFree 10 = .ok (.invokevirtual 69, 3) := by decide +kernel
theorem dX10_monitorIsFree_13 : decode cX10_monitorIsFree 13 = .ok (.if_icmp .ge 7, 3) := by decide +kernel
theorem dX10_monitorIsFree_16 : decode cX10_monitorIsFree 16 = .ok (.iconst 1, 1) := by decide +kernel
theorem dX10_monitorIsFree_17 : decode cX10_monitorIsFree 17 = .ok (.goto 4, 3) := by decide +kernel
theorem dX10_monitorIsFree_20 : decode cX10_monitorIsFree 20 = .ok (.iconst 0, 1) := by decide +kernel
theorem dX10_monitorIsFree_21 : decode cX10_monitorIsFree 21 = .ok (.ireturn, 1) := by decide +kernel
theorem dX10_canInflate_0 : decode cX10_canInflate 0 = .ok (.aload_n 0, 1) := by decide +kernel
theorem dX10_canInflate_1 : decode cX10_canInflate 1 = .ok (.invokevirtual 245, 3) := by decide +kernel
theorem dX10_canInflate_4 : decode cX10_canInflate 4 = .ok (.ifCond .ne 10, 3) := by decide +kernel
theorem dX10_canInflate_7 : decode cX10_canInflate 7 = .ok (.aload_n 0, 1) := by decide +kernel
theorem dX10_canInflate_8 : decode cX10_canInflate 8 = .ok (.invokevirtual 248, 3) := by decide +kernel
theorem dX10_canInflate_11 : decode cX10_canInflate 11 = .ok (.ifnull 7, 3) := by decide +kernel
theorem dX10_canInflate_14 : decode cX10_canInflate 14 = .ok (.iconst 1, 1) := by decide +kernel
theorem dX10_canInflate_15 : decode cX10_canInflate 15 = .ok (.goto 4, 3) := by decide +kernel
theorem dX10_canInflate_18 : decode cX10_canInflate 18 = .ok (.iconst 0, 1) := by decide +kernel
theorem dX10_canInflate_19 : decode cX10_canInflate 19 = .ok (.ireturn, 1) := by decide +kernel
theorem dX10_longestIdle_0 : decode cX10_longestIdle 0 = .ok (.aconst_null, 1) := by decide +kernel
theorem dX10_longestIdle_1 : decode cX10_longestIdle 1 = .ok (.astore_n 1, 1) := by decide +kernel
theorem dX10_longestIdle_2 : decode cX10_longestIdle 2 = .ok (.aload_n 0, 1) := by decide +kernel
theorem dX10_longestIdle_3 : decode cX10_longestIdle 3 = .ok (.getfield 32, 3) := by decide +kernel
theorem dX10_longestIdle_6 : decode cX10_longestIdle 6 = .ok (.astore_n 2, 1) := by decide +kernel
theorem dX10_longestIdle_7 : decode cX10_longestIdle 7 = .ok (.aload_n 2, 1) := by decide +kernel
theorem dX10_longestIdle_8 : decode cX10_longestIdle 8 = .ok (.arraylength, 1) := by decide +kernel
theorem dX10_longestIdle_9 : decode cX10_longestIdle 9 = .ok (.istore_n 3, 1) := by decide +kernel
theorem dX10_longestIdle_10 : decode cX10_longestIdle 10 = .ok (.iconst 0, 1) := by decide +kernel
theorem dX10_longestIdle_11 : decode cX10_longestIdle 11 = .ok (.istore 4, 2) := by decide +kernel
theorem dX10_longestIdle_13 : decode cX10_longestIdle 13 = .ok (.iload 4, 2) := by decide +kernel
theorem dX10_longestIdle_15 : decode cX10_longestIdle 15 = .ok (.iload_n 3, 1) := by decide +kernel
theorem dX10_longestIdle_16 : decode cX10_longestIdle 16 = .ok (.if_icmp .ge 42, 3) := by decide +kernel
theorem dX10_longestIdle_19 : decode cX10_longestIdle 19 = .ok (.aload_n 2, 1) := by decide +kernel
theorem dX10_longestIdle_20 : decode cX10_longestIdle 20 = .ok (.iload 4, 2) := by decide +kernel
theorem dX10_longestIdle_22 : decode cX10_longestIdle 22 = .ok (.aaload, 1) := by decide +kernel
theorem dX10_longestIdle_23 : decode cX10_longestIdle 23 = .ok (.astore 5, 2) := by decide +kernel
theorem dX10_longestIdle_25 : decode cX10_longestIdle 25 = .ok (.aload 5, 2) := by decide +kernel
theorem dX10_longestIdle_27 : decode cX10_longestIdle 27 = .ok (.invokevirtual 252, 3) := by decide +kernel
theorem dX10_longestIdle_30 : decode cX10_longestIdle 30 = .ok (.ifCond .eq 22, 3) := by decide +kernel
theorem dX10_longestIdle_33 : decode cX10_longestIdle 33 = .ok (.aload_n 1, 1) := by decide +kernel
theorem dX10_longestIdle_34 : decode cX10_longestIdle 34 = .ok (.ifnull 15, 3) := by decide +kernel
theorem dX10_longestIdle_37 : decode cX10_longestIdle 37 = .ok (.aload 5, 2) := by decide +kernel
theorem dX10_longestIdle_39 : decode cX10_longestIdle 39 = .ok (.getfield 255, 3) := by decide +kernel
theorem dX10_longestIdle_42 : decode cX10_longestIdle 42 = .ok (.aload_n 1, 1) := by decide +kernel
theorem dX10_longestIdle_43 : decode cX10_longestIdle 43 = .ok (.getfield 255, 3) := by decide +kernel
theorem dX10_longestIdle_46 : decode cX10_longestIdle 46 = .ok (.if_icmp .ge 6, 3) := by decide +kernel
theorem dX10_longestIdle_49 : decode cX10_longestIdle 49 = .ok (.aload 5, 2) := by decide +kernel
theorem dX10_longestIdle_51 : decode cX10_longestIdle 51 = .ok (.astore_n 1, 1) := by decide +kernel
theorem dX10_longestIdle_52 : decode cX10_longestIdle 52 = .ok (.iinc 4 1, 3) := by decide +kernel
theorem dX10_longestIdle_55 : decode cX10_longestIdle 55 = .ok (.goto (-42), 3) := by decide +kernel
theorem dX10_longestIdle_58 : decode cX10_longestIdle 58 = .ok (.aload_n 1, 1) := by decide +kernel
theorem dX10_longestIdle_59 : decode cX10_longestIdle 59 = .ok (.areturn, 1) := by decide +kernel
theorem dX10_inflate_0 : decode cX10_inflate 0 = .ok (.aload_n 0, 1) := by decide +kernel
theorem dX10_inflate_1 : decode cX10_inflate 1 = .ok (.invokevirtual 245, 3) := by decide +kernel
theorem dX10_inflate_4 : decode cX10_inflate 4 = .ok (.ifCond .ne 17, 3) := by decide +kernel
theorem dX10_inflate_7 : decode cX10_inflate 7 = .ok (.aload_n 0, 1) := by decide +kernel
theorem dX10_inflate_8 : decode cX10_inflate 8 = .ok (.invokevirtual 248, 3) := by decide +kernel
theorem dX10_inflate_11 : decode cX10_inflate 11 = .ok (.astore_n 2, 1) := by decide +kernel
theorem dX10_inflate_12 : decode cX10_inflate 12 = .ok (.aload_n 2, 1) := by decide +kernel
theorem dX10_inflate_13 : decode cX10_inflate 13 = .ok (.ifnull 8, 3) := by decide +kernel
theorem dX10_inflate_16 : decode cX10_inflate 16 = .ok (.aload_n 0, 1) := by decide +kernel
theorem dX10_inflate_17 : decode cX10_inflate 17 = .ok (.aload_n 2, 1) := by decide +kernel
theorem dX10_inflate_18 : decode cX10_inflate 18 = .ok (.invokevirtual 258, 3) := by decide +kernel
theorem dX10_inflate_21 : decode cX10_inflate 21 = .ok (.aload_n 1, 1) := by decide +kernel
theorem dX10_inflate_22 : decode cX10_inflate 22 = .ok (.iconst 4, 1) := by decide +kernel
theorem dX10_inflate_23 : decode cX10_inflate 23 = .ok (.putfield 152, 3) := by decide +kernel
theorem dX10_inflate_26 : decode cX10_inflate 26 = .ok (.aload_n 1, 1) := by decide +kernel
theorem dX10_inflate_27 : decode cX10_inflate 27 = .ok (.aload_n 0, 1) := by decide +kernel
theorem dX10_inflate_28 : decode cX10_inflate 28 = .ok (.getfield 54, 3) := by decide +kernel
theorem dX10_inflate_31 : decode cX10_inflate 31 = .ok (.putfield 255, 3) := by decide +kernel
theorem dX10_inflate_34 : decode cX10_inflate 34 = .ok (.aload_n 0, 1) := by decide +kernel
theorem dX10_inflate_35 : decode cX10_inflate 35 = .ok (.getfield 20, 3) := by decide +kernel
theorem dX10_inflate_38 : decode cX10_inflate 38 = .ok (.iconst 2, 1) := by decide +kernel
theorem dX10_inflate_39 : decode cX10_inflate 39 = .ok (.dup2, 1) := by decide +kernel
theorem dX10_inflate_40 : decode cX10_inflate 40 = .ok (.iaload, 1) := by decide +kernel
theorem dX10_inflate_41 : decode cX10_inflate 41 = .ok (.iconst 1, 1) := by decide +kernel
theorem dX10_inflate_42 : decode cX10_inflate 42 = .ok (.iadd, 1) := by decide +kernel
theorem dX10_inflate_43 : decode cX10_inflate 43 = .ok (.iastore, 1) := by decide +kernel
theorem dX10_inflate_44 : decode cX10_inflate 44 = .ok (.return_, 1) := by decide +kernel
theorem dX10_deflate_0 : decode cX10_deflate 0 = .ok (.aload_n 1, 1) := by decide +kernel
theorem dX10_deflate_1 : decode cX10_deflate 1 = .ok (.iconst 0, 1) := by decide +kernel
theorem dX10_deflate_2 : decode cX10_deflate 2 = .ok (.putfield 152, 3) := by decide +kernel
theorem dX10_deflate_5 : decode cX10_deflate 5 = .ok (.aload_n 0, 1) := by decide +kernel
theorem dX10_deflate_6 : decode cX10_deflate 6 = .ok (.getfield 20, 3) := by decide +kernel
theorem dX10_deflate_9 : decode cX10_deflate 9 = .ok (.iconst 3, 1) := by decide +kernel
theorem dX10_deflate_10 : decode cX10_deflate 10 = .ok (.dup2, 1) := by decide +kernel
theorem dX10_deflate_11 : decode cX10_deflate 11 = .ok (.iaload, 1) := by decide +kernel
theorem dX10_deflate_12 : decode cX10_deflate 12 = .ok (.iconst 1, 1) := by decide +kernel
theorem dX10_deflate_13 : decode cX10_deflate 13 = .ok (.iadd, 1) := by decide +kernel
theorem dX10_deflate_14 : decode cX10_deflate 14 = .ok (.iastore, 1) := by decide +kernel
theorem dX10_deflate_15 : decode cX10_deflate 15 = .ok (.return_, 1) := by decide +kernel
theorem dX10_exitObject_0 : decode cX10_exitObject 0 = .ok (.aload_n 0, 1) := by decide +kernel
theorem dX10_exitObject_1 : decode cX10_exitObject 1 = .ok (.iload_n 1, 1) := by decide +kernel
theorem dX10_exitObject_2 : decode cX10_exitObject 2 = .ok (.iload_n 2, 1) := by decide +kernel
theorem dX10_exitObject_3 : decode cX10_exitObject 3 = .ok (.invokevirtual 261, 3) := by decide +kernel
theorem dX10_exitObject_6 : decode cX10_exitObject 6 = .ok (.istore_n 3, 1) := by decide +kernel
theorem dX10_exitObject_7 : decode cX10_exitObject 7 = .ok (.iload_n 3, 1) := by decide +kernel
theorem dX10_exitObject_8 : decode cX10_exitObject 8 = .ok (.ifCond .eq 5, 3) := by decide +kernel
theorem dX10_exitObject_11 : decode cX10_exitObject 11 = .ok (.iload_n 3, 1) := by decide +kernel
theorem dX10_exitObject_12 : decode cX10_exitObject 12 = .ok (.ireturn, 1) := by decide +kernel
theorem dX10_exitObject_13 : decode cX10_exitObject 13 = .ok (.aload_n 0, 1) := by decide +kernel
theorem dX10_exitObject_14 : decode cX10_exitObject 14 = .ok (.getfield 32, 3) := by decide +kernel
theorem dX10_exitObject_17 : decode cX10_exitObject 17 = .ok (.iload_n 2, 1) := by decide +kernel
theorem dX10_exitObject_18 : decode cX10_exitObject 18 = .ok (.aaload, 1) := by decide +kernel
theorem dX10_exitObject_19 : decode cX10_exitObject 19 = .ok (.astore 4, 2) := by decide +kernel
theorem dX10_exitObject_21 : decode cX10_exitObject 21 = .ok (.aload 4, 2) := by decide +kernel
theorem dX10_exitObject_23 : decode cX10_exitObject 23 = .ok (.getfield 166, 3) := by decide +kernel
theorem dX10_exitObject_26 : decode cX10_exitObject 26 = .ok (.iconst 1, 1) := by decide +kernel
theorem dX10_exitObject_27 : decode cX10_exitObject 27 = .ok (.if_icmp .le 20, 3) := by decide +kernel
theorem dX10_exitObject_30 : decode cX10_exitObject 30 = .ok (.aload 4, 2) := by decide +kernel
theorem dX10_exitObject_32 : decode cX10_exitObject 32 = .ok (.dup, 1) := by decide +kernel
theorem dX10_exitObject_33 : decode cX10_exitObject 33 = .ok (.getfield 166, 3) := by decide +kernel
theorem dX10_exitObject_36 : decode cX10_exitObject 36 = .ok (.iconst 1, 1) := by decide +kernel
theorem dX10_exitObject_37 : decode cX10_exitObject 37 = .ok (.isub, 1) := by decide +kernel
theorem dX10_exitObject_38 : decode cX10_exitObject 38 = .ok (.putfield 166, 3) := by decide +kernel
theorem dX10_exitObject_41 : decode cX10_exitObject 41 = .ok (.aload 4, 2) := by decide +kernel
theorem dX10_exitObject_43 : decode cX10_exitObject 43 = .ok (.getfield 166, 3) := by decide +kernel
theorem dX10_exitObject_46 : decode cX10_exitObject 46 = .ok (.ireturn, 1) := by decide +kernel
theorem dX10_exitObject_47 : decode cX10_exitObject 47 = .ok (.aload_n 0, 1) := by decide +kernel
theorem dX10_exitObject_48 : decode cX10_exitObject 48 = .ok (.aload 4, 2) := by decide +kernel
theorem dX10_exitObject_50 : decode cX10_exitObject 50 = .ok (.invokevirtual 264, 3) := by decide +kernel
theorem dX10_exitObject_53 : decode cX10_exitObject 53 = .ok (.iconst 0, 1) := by decide +kernel
theorem dX10_exitObject_54 : decode cX10_exitObject 54 = .ok (.ireturn, 1) := by decide +kernel
theorem dX10_release_0 : decode cX10_release 0 = .ok (.aload_n 1, 1) := by decide +kernel
theorem dX10_release_1 : decode cX10_release 1 = .ok (.invokevirtual 267, 3) := by decide +kernel
theorem dX10_release_4 : decode cX10_release 4 = .ok (.aload_n 1, 1) := by decide +kernel
theorem dX10_release_5 : decode cX10_release 5 = .ok (.getfield 152, 3) := by decide +kernel
theorem dX10_release_8 : decode cX10_release 8 = .ok (.iconst 3, 1) := by decide +kernel
theorem dX10_release_9 : decode cX10_release 9 = .ok (.if_icmp .ne 21, 3) := by decide +kernel
theorem dX10_release_12 : decode cX10_release 12 = .ok (.aload_n 1, 1) := by decide +kernel
theorem dX10_release_13 : decode cX10_release 13 = .ok (.iconst 0, 1) := by decide +kernel
theorem dX10_release_14 : decode cX10_release 14 = .ok (.putfield 152, 3) := by decide +kernel
theorem dX10_release_17 : decode cX10_release 17 = .ok (.aload_n 0, 1) := by decide +kernel
theorem dX10_release_18 : decode cX10_release 18 = .ok (.getfield 20, 3) := by decide +kernel
theorem dX10_release_21 : decode cX10_release 21 = .ok (.iconst 0, 1) := by decide +kernel
theorem dX10_release_22 : decode cX10_release 22 = .ok (.dup2, 1) := by decide +kernel
theorem dX10_release_23 : decode cX10_release 23 = .ok (.iaload, 1) := by decide +kernel
theorem dX10_release_24 : decode cX10_release 24 = .ok (.iconst 1, 1) := by decide +kernel
theorem dX10_release_25 : decode cX10_release 25 = .ok (.iadd, 1) := by decide +kernel
theorem dX10_release_26 : decode cX10_release 26 = .ok (.iastore, 1) := by decide +kernel
theorem dX10_release_27 : decode cX10_release 27 = .ok (.goto 57, 3) := by decide +kernel
theorem dX10_release_30 : decode cX10_release 30 = .ok (.aload_n 1, 1) := by decide +kernel
theorem dX10_release_31 : decode cX10_release 31 = .ok (.getfield 152, 3) := by decide +kernel
theorem dX10_release_34 : decode cX10_release 34 = .ok (.iconst 4, 1) := by decide +kernel
theorem dX10_release_35 : decode cX10_release 35 = .ok (.if_icmp .ne 49, 3) := by decide +kernel
theorem dX10_release_38 : decode cX10_release 38 = .ok (.aload_n 1, 1) := by decide +kernel
theorem dX10_release_39 : decode cX10_release 39 = .ok (.aload_n 0, 1) := by decide +kernel
theorem dX10_release_40 : decode cX10_release 40 = .ok (.getfield 54, 3) := by decide +kernel
theorem dX10_release_43 : decode cX10_release 43 = .ok (.putfield 255, 3) := by decide +kernel
theorem dX10_release_46 : decode cX10_release 46 = .ok (.aload_n 0, 1) := by decide +kernel
theorem dX10_release_47 : decode cX10_release 47 = .ok (.getfield 12, 3) := by decide +kernel
theorem dX10_release_50 : decode cX10_release 50 = .ok (.iconst 1, 1) := by decide +kernel
theorem dX10_release_51 : decode cX10_release 51 = .ok (.invokevirtual 69, 3) := by decide +kernel
theorem dX10_release_54 : decode cX10_release 54 = .ok (.iconst 1, 1) := by decide +kernel
theorem dX10_release_55 : decode cX10_release 55 = .ok (.if_icmp .ne 29, 3) := by decide +kernel
theorem dX10_release_58 : decode cX10_release 58 = .ok (.aload_n 1, 1) := by decide +kernel
theorem dX10_release_59 : decode cX10_release 59 = .ok (.getfield 194, 3) := by decide +kernel
theorem dX10_release_62 : decode cX10_release 62 = .ok (.invokevirtual 198, 3) := by decide +kernel
theorem dX10_release_65 : decode cX10_release 65 = .ok (.ifCond .ne 19, 3) := by decide +kernel
theorem dX10_release_68 : decode cX10_release 68 = .ok (.aload_n 0, 1) := by decide +kernel
theorem dX10_release_69 : decode cX10_release 69 = .ok (.getfield 20, 3) := by decide +kernel
theorem dX10_release_72 : decode cX10_release 72 = .ok (.bipush 6, 2) := by decide +kernel
theorem dX10_release_74 : decode cX10_release 74 = .ok (.dup2, 1) := by decide +kernel
theorem dX10_release_75 : decode cX10_release 75 = .ok (.iaload, 1) := by decide +kernel
theorem dX10_release_76 : decode cX10_release 76 = .ok (.iconst 1, 1) := by decide +kernel
theorem dX10_release_77 : decode cX10_release 77 = .ok (.iadd, 1) := by decide +kernel
theorem dX10_release_78 : decode cX10_release 78 = .ok (.iastore, 1) := by decide +kernel
theorem dX10_release_79 : decode cX10_release 79 = .ok (.aload_n 0, 1) := by decide +kernel
theorem dX10_release_80 : decode cX10_release 80 = .ok (.aload_n 1, 1) := by decide +kernel
theorem dX10_release_81 : decode cX10_release 81 = .ok (.invokevirtual 270, 3) := by decide +kernel
theorem dX10_release_84 : decode cX10_release 84 = .ok (.return_, 1) := by decide +kernel
theorem dX10_giveToFirst_0 : decode cX10_giveToFirst 0 = .ok (.aload_n 1, 1) := by decide +kernel
theorem dX10_giveToFirst_1 : decode cX10_giveToFirst 1 = .ok (.getfield 194, 3) := by decide +kernel
theorem dX10_giveToFirst_4 : decode cX10_giveToFirst 4 = .ok (.iconst 0, 1) := by decide +kernel
theorem dX10_giveToFirst_5 : decode cX10_giveToFirst 5 = .ok (.invokevirtual 273, 3) := by decide +kernel
theorem dX10_giveToFirst_8 : decode cX10_giveToFirst 8 = .ok (.istore_n 2, 1) := by decide +kernel
theorem dX10_giveToFirst_9 : decode cX10_giveToFirst 9 = .ok (.aload_n 0, 1) := by decide +kernel
theorem dX10_giveToFirst_10 : decode cX10_giveToFirst 10 = .ok (.iload_n 2, 1) := by decide +kernel
theorem dX10_giveToFirst_11 : decode cX10_giveToFirst 11 = .ok (.invokevirtual 128, 3) := by decide +kernel
theorem dX10_giveToFirst_14 : decode cX10_giveToFirst 14 = .ok (.ifCond .ne 4, 3) := by decide +kernel
theorem dX10_giveToFirst_17 : decode cX10_giveToFirst 17 = .ok (.return_, 1) := by decide +kernel
theorem dX10_giveToFirst_18 : decode cX10_giveToFirst 18 = .ok (.aload_n 1, 1) := by decide +kernel
theorem dX10_giveToFirst_19 : decode cX10_giveToFirst 19 = .ok (.getfield 194, 3) := by decide +kernel
theorem dX10_giveToFirst_22 : decode cX10_giveToFirst 22 = .ok (.iload_n 2, 1) := by decide +kernel
theorem dX10_giveToFirst_23 : decode cX10_giveToFirst 23 = .ok (.invokevirtual 276, 3) := by decide +kernel
theorem dX10_giveToFirst_26 : decode cX10_giveToFirst 26 = .ok (.aload_n 0, 1) := by decide +kernel
theorem dX10_giveToFirst_27 : decode cX10_giveToFirst 27 = .ok (.getfield 26, 3) := by decide +kernel
theorem dX10_giveToFirst_30 : decode cX10_giveToFirst 30 = .ok (.iload_n 2, 1) := by decide +kernel
theorem dX10_giveToFirst_31 : decode cX10_giveToFirst 31 = .ok (.aaload, 1) := by decide +kernel
theorem dX10_giveToFirst_32 : decode cX10_giveToFirst 32 = .ok (.astore_n 3, 1) := by decide +kernel
theorem dX10_giveToFirst_33 : decode cX10_giveToFirst 33 = .ok (.aload_n 1, 1) := by decide +kernel
theorem dX10_giveToFirst_34 : decode cX10_giveToFirst 34 = .ok (.iload_n 2, 1) := by decide +kernel
theorem dX10_giveToFirst_35 : decode cX10_giveToFirst 35 = .ok (.aload_n 3, 1) := by decide +kernel
theorem dX10_giveToFirst_36 : decode cX10_giveToFirst 36 = .ok (.getfield 219, 3) := by decide +kernel
theorem dX10_giveToFirst_39 : decode cX10_giveToFirst 39 = .ok (.invokevirtual 190, 3) := by decide +kernel
theorem dX10_giveToFirst_42 : decode cX10_giveToFirst 42 = .ok (.aload_n 3, 1) := by decide +kernel
theorem dX10_giveToFirst_43 : decode cX10_giveToFirst 43 = .ok (.iconst 0, 1) := by decide +kernel
theorem dX10_giveToFirst_44 : decode cX10_giveToFirst 44 = .ok (.invokevirtual 279, 3) := by decide +kernel
theorem dX10_giveToFirst_47 : decode cX10_giveToFirst 47 = .ok (.aload_n 0, 1) := by decide +kernel
theorem dX10_giveToFirst_48 : decode cX10_giveToFirst 48 = .ok (.aload_n 1, 1) := by decide +kernel
theorem dX10_giveToFirst_49 : decode cX10_giveToFirst 49 = .ok (.invokevirtual 176, 3) := by decide +kernel
theorem dX10_giveToFirst_52 : decode cX10_giveToFirst 52 = .ok (.pop, 1) := by decide +kernel
theorem dX10_giveToFirst_53 : decode cX10_giveToFirst 53 = .ok (.return_, 1) := by decide +kernel
theorem dX10_awaitAt_0 : decode cX10_awaitAt 0 = .ok (.iload_n 3, 1) := by decide +kernel
theorem dX10_awaitAt_1 : decode cX10_awaitAt 1 = .ok (.ifCond .lt 9, 3) := by decide +kernel
theorem dX10_awaitAt_4 : decode cX10_awaitAt 4 = .ok (.iload_n 3, 1) := by decide +kernel
theorem dX10_awaitAt_5 : decode cX10_awaitAt 5 = .ok (.bipush 50, 2) := by decide +kernel
theorem dX10_awaitAt_7 : decode cX10_awaitAt 7 = .ok (.if_icmp .le 7, 3) := by decide +kernel
theorem dX10_awaitAt_10 : decode cX10_awaitAt 10 = .ok (.iconst 1, 1) := by decide +kernel
theorem dX10_awaitAt_11 : decode cX10_awaitAt 11 = .ok (.goto 4, 3) := by decide +kernel
theorem dX10_awaitAt_14 : decode cX10_awaitAt 14 = .ok (.iconst 0, 1) := by decide +kernel
theorem dX10_awaitAt_15 : decode cX10_awaitAt 15 = .ok (.istore 4, 2) := by decide +kernel
theorem dX10_awaitAt_17 : decode cX10_awaitAt 17 = .ok (.iload 4, 2) := by decide +kernel
theorem dX10_awaitAt_19 : decode cX10_awaitAt 19 = .ok (.ifCond .eq 21, 3) := by decide +kernel
theorem dX10_awaitAt_22 : decode cX10_awaitAt 22 = .ok (.aload_n 0, 1) := by decide +kernel
theorem dX10_awaitAt_23 : decode cX10_awaitAt 23 = .ok (.iload_n 1, 1) := by decide +kernel
theorem dX10_awaitAt_24 : decode cX10_awaitAt 24 = .ok (.invokevirtual 128, 3) := by decide +kernel
theorem dX10_awaitAt_27 : decode cX10_awaitAt 27 = .ok (.ifCond .eq 13, 3) := by decide +kernel
theorem dX10_awaitAt_30 : decode cX10_awaitAt 30 = .ok (.iload_n 2, 1) := by decide +kernel
theorem dX10_awaitAt_31 : decode cX10_awaitAt 31 = .ok (.invokestatic 132, 3) := by decide +kernel
theorem dX10_awaitAt_34 : decode cX10_awaitAt 34 = .ok (.ifCond .eq 6, 3) := by decide +kernel
theorem dX10_awaitAt_37 : decode cX10_awaitAt 37 = .ok (.bipush (-3), 2) := by decide +kernel
theorem dX10_awaitAt_39 : decode cX10_awaitAt 39 = .ok (.ireturn, 1) := by decide +kernel
theorem dX10_awaitAt_40 : decode cX10_awaitAt 40 = .ok (.aload_n 0, 1) := by decide +kernel
theorem dX10_awaitAt_41 : decode cX10_awaitAt 41 = .ok (.iload_n 1, 1) := by decide +kernel
theorem dX10_awaitAt_42 : decode cX10_awaitAt 42 = .ok (.iload_n 2, 1) := by decide +kernel
theorem dX10_awaitAt_43 : decode cX10_awaitAt 43 = .ok (.invokevirtual 261, 3) := by decide +kernel
theorem dX10_awaitAt_46 : decode cX10_awaitAt 46 = .ok (.istore 5, 2) := by decide +kernel
theorem dX10_awaitAt_48 : decode cX10_awaitAt 48 = .ok (.iload 5, 2) := by decide +kernel
theorem dX10_awaitAt_50 : decode cX10_awaitAt 50 = .ok (.ifCond .eq 6, 3) := by decide +kernel
theorem dX10_awaitAt_53 : decode cX10_awaitAt 53 = .ok (.iload 5, 2) := by decide +kernel
theorem dX10_awaitAt_55 : decode cX10_awaitAt 55 = .ok (.ireturn, 1) := by decide +kernel
theorem dX10_awaitAt_56 : decode cX10_awaitAt 56 = .ok (.aload_n 0, 1) := by decide +kernel
theorem dX10_awaitAt_57 : decode cX10_awaitAt 57 = .ok (.getfield 26, 3) := by decide +kernel
theorem dX10_awaitAt_60 : decode cX10_awaitAt 60 = .ok (.iload_n 1, 1) := by decide +kernel
theorem dX10_awaitAt_61 : decode cX10_awaitAt 61 = .ok (.aaload, 1) := by decide +kernel
theorem dX10_awaitAt_62 : decode cX10_awaitAt 62 = .ok (.astore 6, 2) := by decide +kernel
theorem dX10_awaitAt_64 : decode cX10_awaitAt 64 = .ok (.aload 6, 2) := by decide +kernel
theorem dX10_awaitAt_66 : decode cX10_awaitAt 66 = .ok (.getfield 282, 3) := by decide +kernel
theorem dX10_awaitAt_69 : decode cX10_awaitAt 69 = .ok (.ifCond .eq 18, 3) := by decide +kernel
theorem dX10_awaitAt_72 : decode cX10_awaitAt 72 = .ok (.aload 6, 2) := by decide +kernel
theorem dX10_awaitAt_74 : decode cX10_awaitAt 74 = .ok (.iconst 0, 1) := by decide +kernel
theorem dX10_awaitAt_75 : decode cX10_awaitAt 75 = .ok (.putfield 282, 3) := by decide +kernel
theorem dX10_awaitAt_78 : decode cX10_awaitAt 78 = .ok (.aload 6, 2) := by decide +kernel
theorem dX10_awaitAt_80 : decode cX10_awaitAt 80 = .ok (.iconst 3, 1) := by decide +kernel
theorem dX10_awaitAt_81 : decode cX10_awaitAt 81 = .ok (.putfield 285, 3) := by decide +kernel
theorem dX10_awaitAt_84 : decode cX10_awaitAt 84 = .ok (.bipush (-9), 2) := by decide +kernel
theorem dX10_awaitAt_86 : decode cX10_awaitAt 86 = .ok (.ireturn, 1) := by decide +kernel
theorem dX10_awaitAt_87 : decode cX10_awaitAt 87 = .ok (.aload_n 0, 1) := by decide +kernel
theorem dX10_awaitAt_88 : decode cX10_awaitAt 88 = .ok (.getfield 32, 3) := by decide +kernel
theorem dX10_awaitAt_91 : decode cX10_awaitAt 91 = .ok (.iload_n 2, 1) := by decide +kernel
theorem dX10_awaitAt_92 : decode cX10_awaitAt 92 = .ok (.aaload, 1) := by decide +kernel
theorem dX10_awaitAt_93 : decode cX10_awaitAt 93 = .ok (.astore 7, 2) := by decide +kernel
theorem dX10_awaitAt_95 : decode cX10_awaitAt 95 = .ok (.aload 7, 2) := by decide +kernel
theorem dX10_awaitAt_97 : decode cX10_awaitAt 97 = .ok (.getfield 152, 3) := by decide +kernel
theorem dX10_awaitAt_100 : decode cX10_awaitAt 100 = .ok (.iconst 4, 1) := by decide +kernel
theorem dX10_awaitAt_101 : decode cX10_awaitAt 101 = .ok (.if_icmp .eq 19, 3) := by decide +kernel
theorem dX10_awaitAt_104 : decode cX10_awaitAt 104 = .ok (.aload_n 0, 1) := by decide +kernel
theorem dX10_awaitAt_105 : decode cX10_awaitAt 105 = .ok (.invokevirtual 148, 3) := by decide +kernel
theorem dX10_awaitAt_108 : decode cX10_awaitAt 108 = .ok (.ifCond .ne 6, 3) := by decide +kernel
theorem dX10_awaitAt_111 : decode cX10_awaitAt 111 = .ok (.bipush (-6), 2) := by decide +kernel
theorem dX10_awaitAt_113 : decode cX10_awaitAt 113 = .ok (.ireturn, 1) := by decide +kernel
theorem dX10_awaitAt_114 : decode cX10_awaitAt 114 = .ok (.aload_n 0, 1) := by decide +kernel
theorem dX10_awaitAt_115 : decode cX10_awaitAt 115 = .ok (.aload 7, 2) := by decide +kernel
theorem dX10_awaitAt_117 : decode cX10_awaitAt 117 = .ok (.invokevirtual 163, 3) := by decide +kernel
theorem dX10_awaitAt_120 : decode cX10_awaitAt 120 = .ok (.aload_n 0, 1) := by decide +kernel
theorem dX10_awaitAt_121 : decode cX10_awaitAt 121 = .ok (.iload_n 1, 1) := by decide +kernel
theorem dX10_awaitAt_122 : decode cX10_awaitAt 122 = .ok (.aload 7, 2) := by decide +kernel
theorem dX10_awaitAt_124 : decode cX10_awaitAt 124 = .ok (.iload_n 3, 1) := by decide +kernel
theorem dX10_awaitAt_125 : decode cX10_awaitAt 125 = .ok (.invokevirtual 288, 3) := by decide +kernel
theorem dX10_awaitAt_128 : decode cX10_awaitAt 128 = .ok (.aload_n 0, 1) := by decide +kernel
theorem dX10_awaitAt_129 : decode cX10_awaitAt 129 = .ok (.aload 7, 2) := by decide +kernel
theorem dX10_awaitAt_131 : decode cX10_awaitAt 131 = .ok (.invokevirtual 264, 3) := by decide +kernel
theorem dX10_awaitAt_134 : decode cX10_awaitAt 134 = .ok (.aload 6, 2) := by decide +kernel
theorem dX10_awaitAt_136 : decode cX10_awaitAt 136 = .ok (.getfield 219, 3) := by decide +kernel
theorem dX10_awaitAt_139 : decode cX10_awaitAt 139 = .ok (.ireturn, 1) := by decide +kernel
theorem dX10_beginWait_0 : decode cX10_beginWait 0 = .ok (.aload_n 0, 1) := by decide +kernel
theorem dX10_beginWait_1 : decode cX10_beginWait 1 = .ok (.getfield 26, 3) := by decide +kernel
theorem dX10_beginWait_4 : decode cX10_beginWait 4 = .ok (.iload_n 1, 1) := by decide +kernel
theorem dX10_beginWait_5 : decode cX10_beginWait 5 = .ok (.aaload, 1) := by decide +kernel
theorem dX10_beginWait_6 : decode cX10_beginWait 6 = .ok (.astore 4, 2) := by decide +kernel
theorem dX10_beginWait_8 : decode cX10_beginWait 8 = .ok (.aload 4, 2) := by decide +kernel
theorem dX10_beginWait_10 : decode cX10_beginWait 10 = .ok (.iconst 2, 1) := by decide +kernel
theorem dX10_beginWait_11 : decode cX10_beginWait 11 = .ok (.putfield 135, 3) := by decide +kernel
theorem dX10_beginWait_14 : decode cX10_beginWait 14 = .ok (.aload 4, 2) := by decide +kernel
theorem dX10_beginWait_16 : decode cX10_beginWait 16 = .ok (.aload_n 2, 1) := by decide +kernel
theorem dX10_beginWait_17 : decode cX10_beginWait 17 = .ok (.getfield 213, 3) := by decide +kernel
theorem dX10_beginWait_20 : decode cX10_beginWait 20 = .ok (.putfield 216, 3) := by decide +kernel
theorem dX10_beginWait_23 : decode cX10_beginWait 23 = .ok (.aload 4, 2) := by decide +kernel
theorem dX10_beginWait_25 : decode cX10_beginWait 25 = .ok (.iload_n 3, 1) := by decide +kernel
theorem dX10_beginWait_26 : decode cX10_beginWait 26 = .ok (.ifCond .ne 7, 3) := by decide +kernel
theorem dX10_beginWait_29 : decode cX10_beginWait 29 = .ok (.iconst (-1), 1) := by decide +kernel
theorem dX10_beginWait_30 : decode cX10_beginWait 30 = .ok (.goto 9, 3) := by decide +kernel
theorem dX10_beginWait_33 : decode cX10_beginWait 33 = .ok (.aload_n 0, 1) := by decide +kernel
theorem dX10_beginWait_34 : decode cX10_beginWait 34 = .ok (.getfield 54, 3) := by decide +kernel
theorem dX10_beginWait_37 : decode cX10_beginWait 37 = .ok (.iload_n 3, 1) := by decide +kernel
theorem dX10_beginWait_38 : decode cX10_beginWait 38 = .ok (.iadd, 1) := by decide +kernel
theorem dX10_beginWait_39 : decode cX10_beginWait 39 = .ok (.putfield 292, 3) := by decide +kernel
theorem dX10_beginWait_42 : decode cX10_beginWait 42 = .ok (.aload 4, 2) := by decide +kernel
theorem dX10_beginWait_44 : decode cX10_beginWait 44 = .ok (.aload_n 2, 1) := by decide +kernel
theorem dX10_beginWait_45 : decode cX10_beginWait 45 = .ok (.getfield 166, 3) := by decide +kernel
theorem dX10_beginWait_48 : decode cX10_beginWait 48 = .ok (.putfield 219, 3) := by decide +kernel
theorem dX10_beginWait_51 : decode cX10_beginWait 51 = .ok (.aload_n 2, 1) := by decide +kernel
theorem dX10_beginWait_52 : decode cX10_beginWait 52 = .ok (.getfield 295, 3) := by decide +kernel
theorem dX10_beginWait_55 : decode cX10_beginWait 55 = .ok (.iload_n 1, 1) := by decide +kernel
theorem dX10_beginWait_56 : decode cX10_beginWait 56 = .ok (.invokevirtual 210, 3) := by decide +kernel
theorem dX10_beginWait_59 : decode cX10_beginWait 59 = .ok (.return_, 1) := by decide +kernel
theorem dX10_notifyFirst_0 : decode cX10_notifyFirst 0 = .ok (.aload_n 0, 1) := by decide +kernel
theorem dX10_notifyFirst_1 : decode cX10_notifyFirst 1 = .ok (.iload_n 1, 1) := by decide +kernel
theorem dX10_notifyFirst_2 : decode cX10_notifyFirst 2 = .ok (.iload_n 2, 1) := by decide +kernel
theorem dX10_notifyFirst_3 : decode cX10_notifyFirst 3 = .ok (.invokevirtual 261, 3) := by decide +kernel
theorem dX10_notifyFirst_6 : decode cX10_notifyFirst 6 = .ok (.istore_n 3, 1) := by decide +kernel
theorem dX10_notifyFirst_7 : decode cX10_notifyFirst 7 = .ok (.iload_n 3, 1) := by decide +kernel
theorem dX10_notifyFirst_8 : decode cX10_notifyFirst 8 = .ok (.ifCond .eq 5, 3) := by decide +kernel
theorem dX10_notifyFirst_11 : decode cX10_notifyFirst 11 = .ok (.iload_n 3, 1) := by decide +kernel
theorem dX10_notifyFirst_12 : decode cX10_notifyFirst 12 = .ok (.ireturn, 1) := by decide +kernel
theorem dX10_notifyFirst_13 : decode cX10_notifyFirst 13 = .ok (.aload_n 0, 1) := by decide +kernel
theorem dX10_notifyFirst_14 : decode cX10_notifyFirst 14 = .ok (.getfield 32, 3) := by decide +kernel
theorem dX10_notifyFirst_17 : decode cX10_notifyFirst 17 = .ok (.iload_n 2, 1) := by decide +kernel
theorem dX10_notifyFirst_18 : decode cX10_notifyFirst 18 = .ok (.aaload, 1) := by decide +kernel
theorem dX10_notifyFirst_19 : decode cX10_notifyFirst 19 = .ok (.astore 4, 2) := by decide +kernel
theorem dX10_notifyFirst_21 : decode cX10_notifyFirst 21 = .ok (.aload 4, 2) := by decide +kernel
theorem dX10_notifyFirst_23 : decode cX10_notifyFirst 23 = .ok (.getfield 295, 3) := by decide +kernel
theorem dX10_notifyFirst_26 : decode cX10_notifyFirst 26 = .ok (.iconst 0, 1) := by decide +kernel
theorem dX10_notifyFirst_27 : decode cX10_notifyFirst 27 = .ok (.invokevirtual 273, 3) := by decide +kernel
theorem dX10_notifyFirst_30 : decode cX10_notifyFirst 30 = .ok (.istore 5, 2) := by decide +kernel
theorem dX10_notifyFirst_32 : decode cX10_notifyFirst 32 = .ok (.aload_n 0, 1) := by decide +kernel
theorem dX10_notifyFirst_33 : decode cX10_notifyFirst 33 = .ok (.iload 5, 2) := by decide +kernel
theorem dX10_notifyFirst_35 : decode cX10_notifyFirst 35 = .ok (.invokevirtual 128, 3) := by decide +kernel
theorem dX10_notifyFirst_38 : decode cX10_notifyFirst 38 = .ok (.ifCond .ne 6, 3) := by decide +kernel
theorem dX10_notifyFirst_41 : decode cX10_notifyFirst 41 = .ok (.bipush (-8), 2) := by decide +kernel
theorem dX10_notifyFirst_43 : decode cX10_notifyFirst 43 = .ok (.ireturn, 1) := by decide +kernel
theorem dX10_notifyFirst_44 : decode cX10_notifyFirst 44 = .ok (.aload_n 0, 1) := by decide +kernel
theorem dX10_notifyFirst_45 : decode cX10_notifyFirst 45 = .ok (.iload 5, 2) := by decide +kernel
theorem dX10_notifyFirst_47 : decode cX10_notifyFirst 47 = .ok (.aload 4, 2) := by decide +kernel
theorem dX10_notifyFirst_49 : decode cX10_notifyFirst 49 = .ok (.iconst 1, 1) := by decide +kernel
theorem dX10_notifyFirst_50 : decode cX10_notifyFirst 50 = .ok (.invokevirtual 298, 3) := by decide +kernel
theorem dX10_notifyFirst_53 : decode cX10_notifyFirst 53 = .ok (.aload_n 0, 1) := by decide +kernel
theorem dX10_notifyFirst_54 : decode cX10_notifyFirst 54 = .ok (.getfield 12, 3) := by decide +kernel
theorem dX10_notifyFirst_57 : decode cX10_notifyFirst 57 = .ok (.bipush 7, 2) := by decide +kernel
theorem dX10_notifyFirst_59 : decode cX10_notifyFirst 59 = .ok (.invokevirtual 69, 3) := by decide +kernel
theorem dX10_notifyFirst_62 : decode cX10_notifyFirst 62 = .ok (.iconst 1, 1) := by decide +kernel
theorem dX10_notifyFirst_63 : decode cX10_notifyFirst 63 = .ok (.if_icmp .ne 16, 3) := by decide +kernel
theorem dX10_notifyFirst_66 : decode cX10_notifyFirst 66 = .ok (.aload 4, 2) := by decide +kernel
theorem dX10_notifyFirst_68 : decode cX10_notifyFirst 68 = .ok (.getfield 194, 3) := by decide +kernel
theorem dX10_notifyFirst_71 : decode cX10_notifyFirst 71 = .ok (.iload 5, 2) := by decide +kernel
theorem dX10_notifyFirst_73 : decode cX10_notifyFirst 73 = .ok (.invokevirtual 301, 3) := by decide +kernel
theorem dX10_notifyFirst_76 : decode cX10_notifyFirst 76 = .ok (.goto 13, 3) := by decide +kernel
theorem dX10_notifyFirst_79 : decode cX10_notifyFirst 79 = .ok (.aload 4, 2) := by decide +kernel
theorem dX10_notifyFirst_81 : decode cX10_notifyFirst 81 = .ok (.getfield 194, 3) := by decide +kernel
theorem dX10_notifyFirst_84 : decode cX10_notifyFirst 84 = .ok (.iload 5, 2) := by decide +kernel
theorem dX10_notifyFirst_86 : decode cX10_notifyFirst 86 = .ok (.invokevirtual 210, 3) := by decide +kernel
theorem dX10_notifyFirst_89 : decode cX10_notifyFirst 89 = .ok (.iload 5, 2) := by decide +kernel
theorem dX10_notifyFirst_91 : decode cX10_notifyFirst 91 = .ok (.ireturn, 1) := by decide +kernel
theorem dX10_notifyEach_0 : decode cX10_notifyEach 0 = .ok (.aload_n 0, 1) := by decide +kernel
theorem dX10_notifyEach_1 : decode cX10_notifyEach 1 = .ok (.iload_n 1, 1) := by decide +kernel
theorem dX10_notifyEach_2 : decode cX10_notifyEach 2 = .ok (.iload_n 2, 1) := by decide +kernel
theorem dX10_notifyEach_3 : decode cX10_notifyEach 3 = .ok (.invokevirtual 261, 3) := by decide +kernel
theorem dX10_notifyEach_6 : decode cX10_notifyEach 6 = .ok (.istore_n 3, 1) := by decide +kernel
theorem dX10_notifyEach_7 : decode cX10_notifyEach 7 = .ok (.iload_n 3, 1) := by decide +kernel
theorem dX10_notifyEach_8 : decode cX10_notifyEach 8 = .ok (.ifCond .eq 5, 3) := by decide +kernel
theorem dX10_notifyEach_11 : decode cX10_notifyEach 11 = .ok (.iload_n 3, 1) := by decide +kernel
theorem dX10_notifyEach_12 : decode cX10_notifyEach 12 = .ok (.ireturn, 1) := by decide +kernel
theorem dX10_notifyEach_13 : decode cX10_notifyEach 13 = .ok (.aload_n 0, 1) := by decide +kernel
theorem dX10_notifyEach_14 : decode cX10_notifyEach 14 = .ok (.getfield 32, 3) := by decide +kernel
theorem dX10_notifyEach_17 : decode cX10_notifyEach 17 = .ok (.iload_n 2, 1) := by decide +kernel
theorem dX10_notifyEach_18 : decode cX10_notifyEach 18 = .ok (.aaload, 1) := by decide +kernel
theorem dX10_notifyEach_19 : decode cX10_notifyEach 19 = .ok (.astore 4, 2) := by decide +kernel
theorem dX10_notifyEach_21 : decode cX10_notifyEach 21 = .ok (.iconst 0, 1) := by decide +kernel
theorem dX10_notifyEach_22 : decode cX10_notifyEach 22 = .ok (.istore 5, 2) := by decide +kernel
theorem dX10_notifyEach_24 : decode cX10_notifyEach 24 = .ok (.iconst 0, 1) := by decide +kernel
theorem dX10_notifyEach_25 : decode cX10_notifyEach 25 = .ok (.istore 6, 2) := by decide +kernel
theorem dX10_notifyEach_27 : decode cX10_notifyEach 27 = .ok (.iload 6, 2) := by decide +kernel
theorem dX10_notifyEach_29 : decode cX10_notifyEach 29 = .ok (.bipush 6, 2) := by decide +kernel
theorem dX10_notifyEach_31 : decode cX10_notifyEach 31 = .ok (.if_icmp .ge 51, 3) := by decide +kernel
theorem dX10_notifyEach_34 : decode cX10_notifyEach 34 = .ok (.aload 4, 2) := by decide +kernel
theorem dX10_notifyEach_36 : decode cX10_notifyEach 36 = .ok (.getfield 295, 3) := by decide +kernel
theorem dX10_notifyEach_39 : decode cX10_notifyEach 39 = .ok (.iconst 0, 1) := by decide +kernel
theorem dX10_notifyEach_40 : decode cX10_notifyEach 40 = .ok (.invokevirtual 273, 3) := by decide +kernel
theorem dX10_notifyEach_43 : decode cX10_notifyEach 43 = .ok (.istore 7, 2) := by decide +kernel
theorem dX10_notifyEach_45 : decode cX10_notifyEach 45 = .ok (.aload_n 0, 1) := by decide +kernel
theorem dX10_notifyEach_46 : decode cX10_notifyEach 46 = .ok (.iload 7, 2) := by decide +kernel
theorem dX10_notifyEach_48 : decode cX10_notifyEach 48 = .ok (.invokevirtual 128, 3) := by decide +kernel
theorem dX10_notifyEach_51 : decode cX10_notifyEach 51 = .ok (.ifCond .eq 25, 3) := by decide +kernel
theorem dX10_notifyEach_54 : decode cX10_notifyEach 54 = .ok (.aload_n 0, 1) := by decide +kernel
theorem dX10_notifyEach_55 : decode cX10_notifyEach 55 = .ok (.iload 7, 2) := by decide +kernel
theorem dX10_notifyEach_57 : decode cX10_notifyEach 57 = .ok (.aload 4, 2) := by decide +kernel
theorem dX10_notifyEach_59 : decode cX10_notifyEach 59 = .ok (.iconst 1, 1) := by decide +kernel
theorem dX10_notifyEach_60 : decode cX10_notifyEach 60 = .ok (.invokevirtual 298, 3) := by decide +kernel
theorem dX10_notifyEach_63 : decode cX10_notifyEach 63 = .ok (.aload 4, 2) := by decide +kernel
theorem dX10_notifyEach_65 : decode cX10_notifyEach 65 = .ok (.getfield 194, 3) := by decide +kernel
theorem dX10_notifyEach_68 : decode cX10_notifyEach 68 = .ok (.iload 7, 2) := by decide +kernel
theorem dX10_notifyEach_70 : decode cX10_notifyEach 70 = .ok (.invokevirtual 210, 3) := by decide +kernel
theorem dX10_notifyEach_73 : decode cX10_notifyEach 73 = .ok (.iinc 5 1, 3) := by decide +kernel
theorem dX10_notifyEach_76 : decode cX10_notifyEach 76 = .ok (.iinc 6 1, 3) := by decide +kernel
theorem dX10_notifyEach_79 : decode cX10_notifyEach 79 = .ok (.goto (-52), 3) := by decide +kernel
theorem dX10_notifyEach_82 : decode cX10_notifyEach 82 = .ok (.iload 5, 2) := by decide +kernel
theorem dX10_notifyEach_84 : decode cX10_notifyEach 84 = .ok (.ireturn, 1) := by decide +kernel
theorem dX10_endWait_0 : decode cX10_endWait 0 = .ok (.aload_n 2, 1) := by decide +kernel
theorem dX10_endWait_1 : decode cX10_endWait 1 = .ok (.getfield 295, 3) := by decide +kernel
theorem dX10_endWait_4 : decode cX10_endWait 4 = .ok (.iload_n 1, 1) := by decide +kernel
theorem dX10_endWait_5 : decode cX10_endWait 5 = .ok (.invokevirtual 276, 3) := by decide +kernel
theorem dX10_endWait_8 : decode cX10_endWait 8 = .ok (.aload_n 0, 1) := by decide +kernel
theorem dX10_endWait_9 : decode cX10_endWait 9 = .ok (.getfield 26, 3) := by decide +kernel
theorem dX10_endWait_12 : decode cX10_endWait 12 = .ok (.iload_n 1, 1) := by decide +kernel
theorem dX10_endWait_13 : decode cX10_endWait 13 = .ok (.aaload, 1) := by decide +kernel
theorem dX10_endWait_14 : decode cX10_endWait 14 = .ok (.astore 4, 2) := by decide +kernel
theorem dX10_endWait_16 : decode cX10_endWait 16 = .ok (.aload 4, 2) := by decide +kernel
theorem dX10_endWait_18 : decode cX10_endWait 18 = .ok (.iconst 1, 1) := by decide +kernel
theorem dX10_endWait_19 : decode cX10_endWait 19 = .ok (.putfield 135, 3) := by decide +kernel
theorem dX10_endWait_22 : decode cX10_endWait 22 = .ok (.aload 4, 2) := by decide +kernel
theorem dX10_endWait_24 : decode cX10_endWait 24 = .ok (.iload_n 3, 1) := by decide +kernel
theorem dX10_endWait_25 : decode cX10_endWait 25 = .ok (.putfield 285, 3) := by decide +kernel
theorem dX10_endWait_28 : decode cX10_endWait 28 = .ok (.return_, 1) := by decide +kernel
theorem dX10_interruptThread_0 : decode cX10_interruptThread 0 = .ok (.aload_n 0, 1) := by decide +kernel
theorem dX10_interruptThread_1 : decode cX10_interruptThread 1 = .ok (.iload_n 1, 1) := by decide +kernel
theorem dX10_interruptThread_2 : decode cX10_interruptThread 2 = .ok (.invokevirtual 128, 3) := by decide +kernel
theorem dX10_interruptThread_5 : decode cX10_interruptThread 5 = .ok (.ifCond .ne 5, 3) := by decide +kernel
theorem dX10_interruptThread_8 : decode cX10_interruptThread 8 = .ok (.iconst (-1), 1) := by decide +kernel
theorem dX10_interruptThread_9 : decode cX10_interruptThread 9 = .ok (.ireturn, 1) := by decide +kernel
theorem dX10_interruptThread_10 : decode cX10_interruptThread 10 = .ok (.aload_n 0, 1) := by decide +kernel
theorem dX10_interruptThread_11 : decode cX10_interruptThread 11 = .ok (.getfield 26, 3) := by decide +kernel
theorem dX10_interruptThread_14 : decode cX10_interruptThread 14 = .ok (.iload_n 1, 1) := by decide +kernel
theorem dX10_interruptThread_15 : decode cX10_interruptThread 15 = .ok (.aaload, 1) := by decide +kernel
theorem dX10_interruptThread_16 : decode cX10_interruptThread 16 = .ok (.astore_n 2, 1) := by decide +kernel
theorem dX10_interruptThread_17 : decode cX10_interruptThread 17 = .ok (.aload_n 2, 1) := by decide +kernel
theorem dX10_interruptThread_18 : decode cX10_interruptThread 18 = .ok (.getfield 135, 3) := by decide +kernel
theorem dX10_interruptThread_21 : decode cX10_interruptThread 21 = .ok (.iconst 3, 1) := by decide +kernel
theorem dX10_interruptThread_22 : decode cX10_interruptThread 22 = .ok (.if_icmp .ne 6, 3) := by decide +kernel
theorem dX10_interruptThread_25 : decode cX10_interruptThread 25 = .ok (.bipush (-7), 2) := by decide +kernel
theorem dX10_interruptThread_27 : decode cX10_interruptThread 27 = .ok (.ireturn, 1) := by decide +kernel
theorem dX10_interruptThread_28 : decode cX10_interruptThread 28 = .ok (.aload_n 2, 1) := by decide +kernel
theorem dX10_interruptThread_29 : decode cX10_interruptThread 29 = .ok (.getfield 135, 3) := by decide +kernel
theorem dX10_interruptThread_32 : decode cX10_interruptThread 32 = .ok (.iconst 2, 1) := by decide +kernel
theorem dX10_interruptThread_33 : decode cX10_interruptThread 33 = .ok (.if_icmp .ne 40, 3) := by decide +kernel
theorem dX10_interruptThread_36 : decode cX10_interruptThread 36 = .ok (.aload_n 2, 1) := by decide +kernel
theorem dX10_interruptThread_37 : decode cX10_interruptThread 37 = .ok (.getfield 216, 3) := by decide +kernel
theorem dX10_interruptThread_40 : decode cX10_interruptThread 40 = .ok (.invokestatic 132, 3) := by decide +kernel
theorem dX10_interruptThread_43 : decode cX10_interruptThread 43 = .ok (.ifCond .eq 30, 3) := by decide +kernel
theorem dX10_interruptThread_46 : decode cX10_interruptThread 46 = .ok (.aload_n 0, 1) := by decide +kernel
theorem dX10_interruptThread_47 : decode cX10_interruptThread 47 = .ok (.getfield 32, 3) := by decide +kernel
theorem dX10_interruptThread_50 : decode cX10_interruptThread 50 = .ok (.aload_n 2, 1) := by decide +kernel
theorem dX10_interruptThread_51 : decode cX10_interruptThread 51 = .ok (.getfield 216, 3) := by decide +kernel
theorem dX10_interruptThread_54 : decode cX10_interruptThread 54 = .ok (.aaload, 1) := by decide +kernel
theorem dX10_interruptThread_55 : decode cX10_interruptThread 55 = .ok (.astore_n 3, 1) := by decide +kernel
theorem dX10_interruptThread_56 : decode cX10_interruptThread 56 = .ok (.aload_n 0, 1) := by decide +kernel
theorem dX10_interruptThread_57 : decode cX10_interruptThread 57 = .ok (.iload_n 1, 1) := by decide +kernel
theorem dX10_interruptThread_58 : decode cX10_interruptThread 58 = .ok (.aload_n 3, 1) := by decide +kernel
theorem dX10_interruptThread_59 : decode cX10_interruptThread 59 = .ok (.iconst 3, 1) := by decide +kernel
theorem dX10_interruptThread_60 : decode cX10_interruptThread 60 = .ok (.invokevirtual 298, 3) := by decide +kernel
theorem dX10_interruptThread_63 : decode cX10_interruptThread 63 = .ok (.aload_n 3, 1) := by decide +kernel
theorem dX10_interruptThread_64 : decode cX10_interruptThread 64 = .ok (.getfield 194, 3) := by decide +kernel
theorem dX10_interruptThread_67 : decode cX10_interruptThread 67 = .ok (.iload_n 1, 1) := by decide +kernel
theorem dX10_interruptThread_68 : decode cX10_interruptThread 68 = .ok (.invokevirtual 210, 3) := by decide +kernel
theorem dX10_interruptThread_71 : decode cX10_interruptThread 71 = .ok (.iconst 1, 1) := by decide +kernel
theorem dX10_interruptThread_72 : decode cX10_interruptThread 72 = .ok (.ireturn, 1) := by decide +kernel
theorem dX10_interruptThread_73 : decode cX10_interruptThread 73 = .ok (.aload_n 2, 1) := by decide +kernel
theorem dX10_interruptThread_74 : decode cX10_interruptThread 74 = .ok (.iconst 1, 1) := by decide +kernel
theorem dX10_interruptThread_75 : decode cX10_interruptThread 75 = .ok (.putfield 282, 3) := by decide +kernel
theorem dX10_interruptThread_78 : decode cX10_interruptThread 78 = .ok (.iconst 0, 1) := by decide +kernel
theorem dX10_interruptThread_79 : decode cX10_interruptThread 79 = .ok (.ireturn, 1) := by decide +kernel
theorem dX10_endThread_0 : decode cX10_endThread 0 = .ok (.aload_n 0, 1) := by decide +kernel
theorem dX10_endThread_1 : decode cX10_endThread 1 = .ok (.iload_n 1, 1) := by decide +kernel
theorem dX10_endThread_2 : decode cX10_endThread 2 = .ok (.invokevirtual 128, 3) := by decide +kernel
theorem dX10_endThread_5 : decode cX10_endThread 5 = .ok (.ifCond .ne 5, 3) := by decide +kernel
theorem dX10_endThread_8 : decode cX10_endThread 8 = .ok (.iconst (-1), 1) := by decide +kernel
theorem dX10_endThread_9 : decode cX10_endThread 9 = .ok (.ireturn, 1) := by decide +kernel
theorem dX10_endThread_10 : decode cX10_endThread 10 = .ok (.aload_n 0, 1) := by decide +kernel
theorem dX10_endThread_11 : decode cX10_endThread 11 = .ok (.getfield 26, 3) := by decide +kernel
theorem dX10_endThread_14 : decode cX10_endThread 14 = .ok (.iload_n 1, 1) := by decide +kernel
theorem dX10_endThread_15 : decode cX10_endThread 15 = .ok (.aaload, 1) := by decide +kernel
theorem dX10_endThread_16 : decode cX10_endThread 16 = .ok (.astore_n 2, 1) := by decide +kernel
theorem dX10_endThread_17 : decode cX10_endThread 17 = .ok (.aload_n 2, 1) := by decide +kernel
theorem dX10_endThread_18 : decode cX10_endThread 18 = .ok (.getfield 135, 3) := by decide +kernel
theorem dX10_endThread_21 : decode cX10_endThread 21 = .ok (.iconst 3, 1) := by decide +kernel
theorem dX10_endThread_22 : decode cX10_endThread 22 = .ok (.if_icmp .ne 6, 3) := by decide +kernel
theorem dX10_endThread_25 : decode cX10_endThread 25 = .ok (.bipush (-7), 2) := by decide +kernel
theorem dX10_endThread_27 : decode cX10_endThread 27 = .ok (.ireturn, 1) := by decide +kernel
theorem dX10_endThread_28 : decode cX10_endThread 28 = .ok (.aload_n 2, 1) := by decide +kernel
theorem dX10_endThread_29 : decode cX10_endThread 29 = .ok (.getfield 216, 3) := by decide +kernel
theorem dX10_endThread_32 : decode cX10_endThread 32 = .ok (.invokestatic 132, 3) := by decide +kernel
theorem dX10_endThread_35 : decode cX10_endThread 35 = .ok (.ifCond .eq 35, 3) := by decide +kernel
theorem dX10_endThread_38 : decode cX10_endThread 38 = .ok (.aload_n 0, 1) := by decide +kernel
theorem dX10_endThread_39 : decode cX10_endThread 39 = .ok (.getfield 32, 3) := by decide +kernel
theorem dX10_endThread_42 : decode cX10_endThread 42 = .ok (.aload_n 2, 1) := by decide +kernel
theorem dX10_endThread_43 : decode cX10_endThread 43 = .ok (.getfield 216, 3) := by decide +kernel
theorem dX10_endThread_46 : decode cX10_endThread 46 = .ok (.aaload, 1) := by decide +kernel
theorem dX10_endThread_47 : decode cX10_endThread 47 = .ok (.getfield 194, 3) := by decide +kernel
theorem dX10_endThread_50 : decode cX10_endThread 50 = .ok (.iload_n 1, 1) := by decide +kernel
theorem dX10_endThread_51 : decode cX10_endThread 51 = .ok (.invokevirtual 276, 3) := by decide +kernel
theorem dX10_endThread_54 : decode cX10_endThread 54 = .ok (.aload_n 0, 1) := by decide +kernel
theorem dX10_endThread_55 : decode cX10_endThread 55 = .ok (.getfield 32, 3) := by decide +kernel
theorem dX10_endThread_58 : decode cX10_endThread 58 = .ok (.aload_n 2, 1) := by decide +kernel
theorem dX10_endThread_59 : decode cX10_endThread 59 = .ok (.getfield 216, 3) := by decide +kernel
theorem dX10_endThread_62 : decode cX10_endThread 62 = .ok (.aaload, 1) := by decide +kernel
theorem dX10_endThread_63 : decode cX10_endThread 63 = .ok (.getfield 295, 3) := by decide +kernel
theorem dX10_endThread_66 : decode cX10_endThread 66 = .ok (.iload_n 1, 1) := by decide +kernel
theorem dX10_endThread_67 : decode cX10_endThread 67 = .ok (.invokevirtual 276, 3) := by decide +kernel
theorem dX10_endThread_70 : decode cX10_endThread 70 = .ok (.aload_n 2, 1) := by decide +kernel
theorem dX10_endThread_71 : decode cX10_endThread 71 = .ok (.iconst 3, 1) := by decide +kernel
theorem dX10_endThread_72 : decode cX10_endThread 72 = .ok (.invokevirtual 279, 3) := by decide +kernel
theorem dX10_endThread_75 : decode cX10_endThread 75 = .ok (.aload_n 2, 1) := by decide +kernel
theorem dX10_endThread_76 : decode cX10_endThread 76 = .ok (.iconst 0, 1) := by decide +kernel
theorem dX10_endThread_77 : decode cX10_endThread 77 = .ok (.putfield 282, 3) := by decide +kernel
theorem dX10_endThread_80 : decode cX10_endThread 80 = .ok (.iconst 0, 1) := by decide +kernel
theorem dX10_endThread_81 : decode cX10_endThread 81 = .ok (.istore_n 3, 1) := by decide +kernel
theorem dX10_endThread_82 : decode cX10_endThread 82 = .ok (.aload_n 0, 1) := by decide +kernel
theorem dX10_endThread_83 : decode cX10_endThread 83 = .ok (.getfield 32, 3) := by decide +kernel
theorem dX10_endThread_86 : decode cX10_endThread 86 = .ok (.astore 4, 2) := by decide +kernel
theorem dX10_endThread_88 : decode cX10_endThread 88 = .ok (.aload 4, 2) := by decide +kernel
theorem dX10_endThread_90 : decode cX10_endThread 90 = .ok (.arraylength, 1) := by decide +kernel
theorem dX10_endThread_91 : decode cX10_endThread 91 = .ok (.istore 5, 2) := by decide +kernel
theorem dX10_endThread_93 : decode cX10_endThread 93 = .ok (.iconst 0, 1) := by decide +kernel
theorem dX10_endThread_94 : decode cX10_endThread 94 = .ok (.istore 6, 2) := by decide +kernel
theorem dX10_endThread_96 : decode cX10_endThread 96 = .ok (.iload 6, 2) := by decide +kernel
theorem dX10_endThread_98 : decode cX10_endThread 98 = .ok (.iload 5, 2) := by decide +kernel
theorem dX10_endThread_100 : decode cX10_endThread 100 = .ok (.if_icmp .ge 40, 3) := by decide +kernel
theorem dX10_endThread_103 : decode cX10_endThread 103 = .ok (.aload 4, 2) := by decide +kernel
theorem dX10_endThread_105 : decode cX10_endThread 105 = .ok (.iload 6, 2) := by decide +kernel
theorem dX10_endThread_107 : decode cX10_endThread 107 = .ok (.aaload, 1) := by decide +kernel
theorem dX10_endThread_108 : decode cX10_endThread 108 = .ok (.astore 7, 2) := by decide +kernel
theorem dX10_endThread_110 : decode cX10_endThread 110 = .ok (.aload 7, 2) := by decide +kernel
theorem dX10_endThread_112 : decode cX10_endThread 112 = .ok (.iload_n 1, 1) := by decide +kernel
theorem dX10_endThread_113 : decode cX10_endThread 113 = .ok (.invokevirtual 141, 3) := by decide +kernel
theorem dX10_endThread_116 : decode cX10_endThread 116 = .ok (.ifCond .eq 18, 3) := by decide +kernel
theorem dX10_endThread_119 : decode cX10_endThread 119 = .ok (.aload 7, 2) := by decide +kernel
theorem dX10_endThread_121 : decode cX10_endThread 121 = .ok (.iconst 1, 1) := by decide +kernel
theorem dX10_endThread_122 : decode cX10_endThread 122 = .ok (.putfield 222, 3) := by decide +kernel
theorem dX10_endThread_125 : decode cX10_endThread 125 = .ok (.aload_n 0, 1) := by decide +kernel
theorem dX10_endThread_126 : decode cX10_endThread 126 = .ok (.aload 7, 2) := by decide +kernel
theorem dX10_endThread_128 : decode cX10_endThread 128 = .ok (.invokevirtual 264, 3) := by decide +kernel
theorem dX10_endThread_131 : decode cX10_endThread 131 = .ok (.iinc 3 1, 3) := by decide +kernel
theorem dX10_endThread_134 : decode cX10_endThread 134 = .ok (.iinc 6 1, 3) := by decide +kernel
theorem dX10_endThread_137 : decode cX10_endThread 137 = .ok (.goto (-41), 3) := by decide +kernel
theorem dX10_endThread_140 : decode cX10_endThread 140 = .ok (.iload_n 3, 1) := by decide +kernel
theorem dX10_endThread_141 : decode cX10_endThread 141 = .ok (.ireturn, 1) := by decide +kernel
theorem dX10_startThread_0 : decode cX10_startThread 0 = .ok (.aload_n 0, 1) := by decide +kernel
theorem dX10_startThread_1 : decode cX10_startThread 1 = .ok (.iload_n 1, 1) := by decide +kernel
theorem dX10_startThread_2 : decode cX10_startThread 2 = .ok (.invokevirtual 128, 3) := by decide +kernel
theorem dX10_startThread_5 : decode cX10_startThread 5 = .ok (.ifCond .ne 5, 3) := by decide +kernel
theorem dX10_startThread_8 : decode cX10_startThread 8 = .ok (.iconst (-1), 1) := by decide +kernel
theorem dX10_startThread_9 : decode cX10_startThread 9 = .ok (.ireturn, 1) := by decide +kernel
theorem dX10_startThread_10 : decode cX10_startThread 10 = .ok (.aload_n 0, 1) := by decide +kernel
theorem dX10_startThread_11 : decode cX10_startThread 11 = .ok (.getfield 26, 3) := by decide +kernel
theorem dX10_startThread_14 : decode cX10_startThread 14 = .ok (.iload_n 1, 1) := by decide +kernel
theorem dX10_startThread_15 : decode cX10_startThread 15 = .ok (.aaload, 1) := by decide +kernel
theorem dX10_startThread_16 : decode cX10_startThread 16 = .ok (.getfield 135, 3) := by decide +kernel
theorem dX10_startThread_19 : decode cX10_startThread 19 = .ok (.iconst 3, 1) := by decide +kernel
theorem dX10_startThread_20 : decode cX10_startThread 20 = .ok (.if_icmp .eq 6, 3) := by decide +kernel
theorem dX10_startThread_23 : decode cX10_startThread 23 = .ok (.bipush (-7), 2) := by decide +kernel
theorem dX10_startThread_25 : decode cX10_startThread 25 = .ok (.ireturn, 1) := by decide +kernel
theorem dX10_startThread_26 : decode cX10_startThread 26 = .ok (.aload_n 0, 1) := by decide +kernel
theorem dX10_startThread_27 : decode cX10_startThread 27 = .ok (.getfield 26, 3) := by decide +kernel
theorem dX10_startThread_30 : decode cX10_startThread 30 = .ok (.iload_n 1, 1) := by decide +kernel
theorem dX10_startThread_31 : decode cX10_startThread 31 = .ok (.aaload, 1) := by decide +kernel
theorem dX10_startThread_32 : decode cX10_startThread 32 = .ok (.iconst 0, 1) := by decide +kernel
theorem dX10_startThread_33 : decode cX10_startThread 33 = .ok (.putfield 135, 3) := by decide +kernel
theorem dX10_startThread_36 : decode cX10_startThread 36 = .ok (.iconst 0, 1) := by decide +kernel
theorem dX10_startThread_37 : decode cX10_startThread 37 = .ok (.istore_n 2, 1) := by decide +kernel
theorem dX10_startThread_38 : decode cX10_startThread 38 = .ok (.iconst 0, 1) := by decide +kernel
theorem dX10_startThread_39 : decode cX10_startThread 39 = .ok (.istore_n 3, 1) := by decide +kernel
theorem dX10_startThread_40 : decode cX10_startThread 40 = .ok (.iload_n 3, 1) := by decide +kernel
theorem dX10_startThread_41 : decode cX10_startThread 41 = .ok (.aload_n 0, 1) := by decide +kernel
theorem dX10_startThread_42 : decode cX10_startThread 42 = .ok (.getfield 50, 3) := by decide +kernel
theorem dX10_startThread_45 : decode cX10_startThread 45 = .ok (.if_icmp .ge 25, 3) := by decide +kernel
theorem dX10_startThread_48 : decode cX10_startThread 48 = .ok (.aload_n 0, 1) := by decide +kernel
theorem dX10_startThread_49 : decode cX10_startThread 49 = .ok (.getfield 26, 3) := by decide +kernel
theorem dX10_startThread_52 : decode cX10_startThread 52 = .ok (.iload_n 3, 1) := by decide +kernel
theorem dX10_startThread_53 : decode cX10_startThread 53 = .ok (.aaload, 1) := by decide +kernel
theorem dX10_startThread_54 : decode cX10_startThread 54 = .ok (.getfield 135, 3) := by decide +kernel
theorem dX10_startThread_57 : decode cX10_startThread 57 = .ok (.iconst 3, 1) := by decide +kernel
theorem dX10_startThread_58 : decode cX10_startThread 58 = .ok (.if_icmp .eq 6, 3) := by decide +kernel
theorem dX10_startThread_61 : decode cX10_startThread 61 = .ok (.iinc 2 1, 3) := by decide +kernel
theorem dX10_startThread_64 : decode cX10_startThread 64 = .ok (.iinc 3 1, 3) := by decide +kernel
theorem dX10_startThread_67 : decode cX10_startThread 67 = .ok (.goto (-27), 3) := by decide +kernel
theorem dX10_startThread_70 : decode cX10_startThread 70 = .ok (.iload_n 2, 1) := by decide +kernel
theorem dX10_startThread_71 : decode cX10_startThread 71 = .ok (.ireturn, 1) := by decide +kernel
theorem dX10_hashOf_0 : decode cX10_hashOf 0 = .ok (.iload_n 1, 1) := by decide +kernel
theorem dX10_hashOf_1 : decode cX10_hashOf 1 = .ok (.invokestatic 132, 3) := by decide +kernel
theorem dX10_hashOf_4 : decode cX10_hashOf 4 = .ok (.ifCond .ne 6, 3) := by decide +kernel
theorem dX10_hashOf_7 : decode cX10_hashOf 7 = .ok (.bipush (-2), 2) := by decide +kernel
theorem dX10_hashOf_9 : decode cX10_hashOf 9 = .ok (.ireturn, 1) := by decide +kernel
theorem dX10_hashOf_10 : decode cX10_hashOf 10 = .ok (.aload_n 0, 1) := by decide +kernel
theorem dX10_hashOf_11 : decode cX10_hashOf 11 = .ok (.getfield 32, 3) := by decide +kernel
theorem dX10_hashOf_14 : decode cX10_hashOf 14 = .ok (.iload_n 1, 1) := by decide +kernel
theorem dX10_hashOf_15 : decode cX10_hashOf 15 = .ok (.aaload, 1) := by decide +kernel
theorem dX10_hashOf_16 : decode cX10_hashOf 16 = .ok (.astore_n 2, 1) := by decide +kernel
theorem dX10_hashOf_17 : decode cX10_hashOf 17 = .ok (.aload_n 2, 1) := by decide +kernel
theorem dX10_hashOf_18 : decode cX10_hashOf 18 = .ok (.getfield 304, 3) := by decide +kernel
theorem dX10_hashOf_21 : decode cX10_hashOf 21 = .ok (.iconst (-1), 1) := by decide +kernel
theorem dX10_hashOf_22 : decode cX10_hashOf 22 = .ok (.if_icmp .eq 8, 3) := by decide +kernel
theorem dX10_hashOf_25 : decode cX10_hashOf 25 = .ok (.aload_n 2, 1) := by decide +kernel
theorem dX10_hashOf_26 : decode cX10_hashOf 26 = .ok (.getfield 304, 3) := by decide +kernel
theorem dX10_hashOf_29 : decode cX10_hashOf 29 = .ok (.ireturn, 1) := by decide +kernel
theorem dX10_hashOf_30 : decode cX10_hashOf 30 = .ok (.aload_n 2, 1) := by decide +kernel
theorem dX10_hashOf_31 : decode cX10_hashOf 31 = .ok (.invokevirtual 169, 3) := by decide +kernel
theorem dX10_hashOf_34 : decode cX10_hashOf 34 = .ok (.ifCond .eq 29, 3) := by decide +kernel
theorem dX10_hashOf_37 : decode cX10_hashOf 37 = .ok (.aload_n 2, 1) := by decide +kernel
theorem dX10_hashOf_38 : decode cX10_hashOf 38 = .ok (.getfield 152, 3) := by decide +kernel
theorem dX10_hashOf_41 : decode cX10_hashOf 41 = .ok (.iconst 4, 1) := by decide +kernel
theorem dX10_hashOf_42 : decode cX10_hashOf 42 = .ok (.if_icmp .eq 21, 3) := by decide +kernel
theorem dX10_hashOf_45 : decode cX10_hashOf 45 = .ok (.aload_n 0, 1) := by decide +kernel
theorem dX10_hashOf_46 : decode cX10_hashOf 46 = .ok (.invokevirtual 148, 3) := by decide +kernel
theorem dX10_hashOf_49 : decode cX10_hashOf 49 = .ok (.ifCond .ne 6, 3) := by decide +kernel
theorem dX10_hashOf_52 : decode cX10_hashOf 52 = .ok (.bipush (-6), 2) := by decide +kernel
theorem dX10_hashOf_54 : decode cX10_hashOf 54 = .ok (.ireturn, 1) := by decide +kernel
theorem dX10_hashOf_55 : decode cX10_hashOf 55 = .ok (.aload_n 0, 1) := by decide +kernel
theorem dX10_hashOf_56 : decode cX10_hashOf 56 = .ok (.aload_n 2, 1) := by decide +kernel
theorem dX10_hashOf_57 : decode cX10_hashOf 57 = .ok (.invokevirtual 163, 3) := by decide +kernel
theorem dX10_hashOf_60 : decode cX10_hashOf 60 = .ok (.goto 16, 3) := by decide +kernel
theorem dX10_hashOf_63 : decode cX10_hashOf 63 = .ok (.aload_n 2, 1) := by decide +kernel
theorem dX10_hashOf_64 : decode cX10_hashOf 64 = .ok (.getfield 152, 3) := by decide +kernel
theorem dX10_hashOf_67 : decode cX10_hashOf 67 = .ok (.iconst 4, 1) := by decide +kernel
theorem dX10_hashOf_68 : decode cX10_hashOf 68 = .ok (.if_icmp .eq 8, 3) := by decide +kernel
theorem dX10_hashOf_71 : decode cX10_hashOf 71 = .ok (.aload_n 2, 1) := by decide +kernel
theorem dX10_hashOf_72 : decode cX10_hashOf 72 = .ok (.iconst 0, 1) := by decide +kernel
theorem dX10_hashOf_73 : decode cX10_hashOf 73 = .ok (.putfield 152, 3) := by decide +kernel
theorem dX10_hashOf_76 : decode cX10_hashOf 76 = .ok (.aload_n 0, 1) := by decide +kernel
theorem dX10_hashOf_77 : decode cX10_hashOf 77 = .ok (.dup, 1) := by decide +kernel
theorem dX10_hashOf_78 : decode cX10_hashOf 78 = .ok (.getfield 57, 3) := by decide +kernel
theorem dX10_hashOf_81 : decode cX10_hashOf 81 = .ok (.iconst 1, 1) := by decide +kernel
theorem dX10_hashOf_82 : decode cX10_hashOf 82 = .ok (.iadd, 1) := by decide +kernel
theorem dX10_hashOf_83 : decode cX10_hashOf 83 = .ok (.putfield 57, 3) := by decide +kernel
theorem dX10_hashOf_86 : decode cX10_hashOf 86 = .ok (.aload_n 2, 1) := by decide +kernel
theorem dX10_hashOf_87 : decode cX10_hashOf 87 = .ok (.sipush 7919, 3) := by decide +kernel
theorem dX10_hashOf_90 : decode cX10_hashOf 90 = .ok (.aload_n 0, 1) := by decide +kernel
theorem dX10_hashOf_91 : decode cX10_hashOf 91 = .ok (.getfield 57, 3) := by decide +kernel
theorem dX10_hashOf_94 : decode cX10_hashOf 94 = .ok (.imul, 1) := by decide +kernel
theorem dX10_hashOf_95 : decode cX10_hashOf 95 = .ok (.bipush 13, 2) := by decide +kernel
theorem dX10_hashOf_97 : decode cX10_hashOf 97 = .ok (.iload_n 1, 1) := by decide +kernel
theorem dX10_hashOf_98 : decode cX10_hashOf 98 = .ok (.imul, 1) := by decide +kernel
theorem dX10_hashOf_99 : decode cX10_hashOf 99 = .ok (.iadd, 1) := by decide +kernel
theorem dX10_hashOf_100 : decode cX10_hashOf 100 = .ok (.sipush 1000, 3) := by decide +kernel
theorem dX10_hashOf_103 : decode cX10_hashOf 103 = .ok (.irem, 1) := by decide +kernel
theorem dX10_hashOf_104 : decode cX10_hashOf 104 = .ok (.putfield 304, 3) := by decide +kernel
theorem dX10_hashOf_107 : decode cX10_hashOf 107 = .ok (.aload_n 2, 1) := by decide +kernel
theorem dX10_hashOf_108 : decode cX10_hashOf 108 = .ok (.getfield 304, 3) := by decide +kernel
theorem dX10_hashOf_111 : decode cX10_hashOf 111 = .ok (.ireturn, 1) := by decide +kernel
theorem dX10_letPass_0 : decode cX10_letPass 0 = .ok (.iload_n 1, 1) := by decide +kernel
theorem dX10_letPass_1 : decode cX10_letPass 1 = .ok (.iconst 1, 1) := by decide +kernel
theorem dX10_letPass_2 : decode cX10_letPass 2 = .ok (.if_icmp .lt 9, 3) := by decide +kernel
theorem dX10_letPass_5 : decode cX10_letPass 5 = .ok (.iload_n 1, 1) := by decide +kernel
theorem dX10_letPass_6 : decode cX10_letPass 6 = .ok (.bipush 20, 2) := by decide +kernel
theorem dX10_letPass_8 : decode cX10_letPass 8 = .ok (.if_icmp .le 6, 3) := by decide +kernel
theorem dX10_letPass_11 : decode cX10_letPass 11 = .ok (.bipush (-3), 2) := by decide +kernel
theorem dX10_letPass_13 : decode cX10_letPass 13 = .ok (.ireturn, 1) := by decide +kernel
theorem dX10_letPass_14 : decode cX10_letPass 14 = .ok (.iconst 0, 1) := by decide +kernel
theorem dX10_letPass_15 : decode cX10_letPass 15 = .ok (.istore_n 2, 1) := by decide +kernel
theorem dX10_letPass_16 : decode cX10_letPass 16 = .ok (.iconst 0, 1) := by decide +kernel
theorem dX10_letPass_17 : decode cX10_letPass 17 = .ok (.istore_n 3, 1) := by decide +kernel
theorem dX10_letPass_18 : decode cX10_letPass 18 = .ok (.iload_n 3, 1) := by decide +kernel
theorem dX10_letPass_19 : decode cX10_letPass 19 = .ok (.iload_n 1, 1) := by decide +kernel
theorem dX10_letPass_20 : decode cX10_letPass 20 = .ok (.if_icmp .ge 34, 3) := by decide +kernel
theorem dX10_letPass_23 : decode cX10_letPass 23 = .ok (.aload_n 0, 1) := by decide +kernel
theorem dX10_letPass_24 : decode cX10_letPass 24 = .ok (.dup, 1) := by decide +kernel
theorem dX10_letPass_25 : decode cX10_letPass 25 = .ok (.getfield 54, 3) := by decide +kernel
theorem dX10_letPass_28 : decode cX10_letPass 28 = .ok (.iconst 1, 1) := by decide +kernel
theorem dX10_letPass_29 : decode cX10_letPass 29 = .ok (.iadd, 1) := by decide +kernel
theorem dX10_letPass_30 : decode cX10_letPass 30 = .ok (.putfield 54, 3) := by decide +kernel
theorem dX10_letPass_33 : decode cX10_letPass 33 = .ok (.aload_n 0, 1) := by decide +kernel
theorem dX10_letPass_34 : decode cX10_letPass 34 = .ok (.invokevirtual 307, 3) := by decide +kernel
theorem dX10_letPass_37 : decode cX10_letPass 37 = .ok (.iload_n 2, 1) := by decide +kernel
theorem dX10_letPass_38 : decode cX10_letPass 38 = .ok (.aload_n 0, 1) := by decide +kernel
theorem dX10_letPass_39 : decode cX10_letPass 39 = .ok (.invokevirtual 310, 3) := by decide +kernel
theorem dX10_letPass_42 : decode cX10_letPass 42 = .ok (.iadd, 1) := by decide +kernel
theorem dX10_letPass_43 : decode cX10_letPass 43 = .ok (.istore_n 2, 1) := by decide +kernel
theorem dX10_letPass_44 : decode cX10_letPass 44 = .ok (.aload_n 0, 1) := by decide +kernel
theorem dX10_letPass_45 : decode cX10_letPass 45 = .ok (.invokevirtual 313, 3) := by decide +kernel
theorem dX10_letPass_48 : decode cX10_letPass 48 = .ok (.iinc 3 1, 3) := by decide +kernel
theorem dX10_letPass_51 : decode cX10_letPass 51 = .ok (.goto (-33), 3) := by decide +kernel
theorem dX10_letPass_54 : decode cX10_letPass 54 = .ok (.iload_n 2, 1) := by decide +kernel
theorem dX10_letPass_55 : decode cX10_letPass 55 = .ok (.ireturn, 1) := by decide +kernel
theorem dX10_endOverdueWaits_0 : decode cX10_endOverdueWaits 0 = .ok (.iconst 0, 1) := by decide +kernel
theorem dX10_endOverdueWaits_1 : decode cX10_endOverdueWaits 1 = .ok (.istore_n 1, 1) := by decide +kernel
theorem dX10_endOverdueWaits_2 : decode cX10_endOverdueWaits 2 = .ok (.iload_n 1, 1) := by decide +kernel
theorem dX10_endOverdueWaits_3 : decode cX10_endOverdueWaits 3 = .ok (.aload_n 0, 1) := by decide +kernel
theorem dX10_endOverdueWaits_4 : decode cX10_endOverdueWaits 4 = .ok (.getfield 50, 3) := by decide +kernel
theorem dX10_endOverdueWaits_7 : decode cX10_endOverdueWaits 7 = .ok (.if_icmp .ge 91, 3) := by decide +kernel
theorem dX10_endOverdueWaits_10 : decode cX10_endOverdueWaits 10 = .ok (.aload_n 0, 1) := by decide +kernel
theorem dX10_endOverdueWaits_11 : decode cX10_endOverdueWaits 11 = .ok (.getfield 26, 3) := by decide +kernel
theorem dX10_endOverdueWaits_14 : decode cX10_endOverdueWaits 14 = .ok (.iload_n 1, 1) := by decide +kernel
theorem dX10_endOverdueWaits_15 : decode cX10_endOverdueWaits 15 = .ok (.aaload, 1) := by decide +kernel
theorem dX10_endOverdueWaits_16 : decode cX10_endOverdueWaits 16 = .ok (.astore_n 2, 1) := by decide +kernel
theorem dX10_endOverdueWaits_17 : decode cX10_endOverdueWaits 17 = .ok (.aload_n 2, 1) := by decide +kernel
theorem dX10_endOverdueWaits_18 : decode cX10_endOverdueWaits 18 = .ok (.getfield 135, 3) := by decide +kernel
theorem dX10_endOverdueWaits_21 : decode cX10_endOverdueWaits 21 = .ok (.iconst 2, 1) := by decide +kernel
theorem dX10_endOverdueWaits_22 : decode cX10_endOverdueWaits 22 = .ok (.if_icmp .ne 15, 3) := by decide +kernel
theorem dX10_endOverdueWaits_25 : decode cX10_endOverdueWaits 25 = .ok (.aload_n 2, 1) := by decide +kernel
theorem dX10_endOverdueWaits_26 : decode cX10_endOverdueWaits 26 = .ok (.getfield 292, 3) := by decide +kernel
theorem dX10_endOverdueWaits_29 : decode cX10_endOverdueWaits 29 = .ok (.iconst (-1), 1) := by decide +kernel
theorem dX10_endOverdueWaits_30 : decode cX10_endOverdueWaits 30 = .ok (.if_icmp .eq 7, 3) := by decide +kernel
theorem dX10_endOverdueWaits_33 : decode cX10_endOverdueWaits 33 = .ok (.iconst 1, 1) := by decide +kernel
theorem dX10_endOverdueWaits_34 : decode cX10_endOverdueWaits 34 = .ok (.goto 4, 3) := by decide +kernel
theorem dX10_endOverdueWaits_37 : decode cX10_endOverdueWaits 37 = .ok (.iconst 0, 1) := by decide +kernel
theorem dX10_endOverdueWaits_38 : decode cX10_endOverdueWaits 38 = .ok (.istore_n 3, 1) := by decide +kernel
theorem dX10_endOverdueWaits_39 : decode cX10_endOverdueWaits 39 = .ok (.iload_n 3, 1) := by decide +kernel
theorem dX10_endOverdueWaits_40 : decode cX10_endOverdueWaits 40 = .ok (.ifCond .eq 52, 3) := by decide +kernel
theorem dX10_endOverdueWaits_43 : decode cX10_endOverdueWaits 43 = .ok (.aload_n 2, 1) := by decide +kernel
theorem dX10_endOverdueWaits_44 : decode cX10_endOverdueWaits 44 = .ok (.getfield 292, 3) := by decide +kernel
theorem dX10_endOverdueWaits_47 : decode cX10_endOverdueWaits 47 = .ok (.aload_n 0, 1) := by decide +kernel
theorem dX10_endOverdueWaits_48 : decode cX10_endOverdueWaits 48 = .ok (.getfield 54, 3) := by decide +kernel
theorem dX10_endOverdueWaits_51 : decode cX10_endOverdueWaits 51 = .ok (.if_icmp .gt 41, 3) := by decide +kernel
theorem dX10_endOverdueWaits_54 : decode cX10_endOverdueWaits 54 = .ok (.aload_n 2, 1) := by decide +kernel
theorem dX10_endOverdueWaits_55 : decode cX10_endOverdueWaits 55 = .ok (.getfield 216, 3) := by decide +kernel
theorem dX10_endOverdueWaits_58 : decode cX10_endOverdueWaits 58 = .ok (.invokestatic 132, 3) := by decide +kernel
theorem dX10_endOverdueWaits_61 : decode cX10_endOverdueWaits 61 = .ok (.ifCond .eq 31, 3) := by decide +kernel
theorem dX10_endOverdueWaits_64 : decode cX10_endOverdueWaits 64 = .ok (.aload_n 0, 1) := by decide +kernel
theorem dX10_endOverdueWaits_65 : decode cX10_endOverdueWaits 65 = .ok (.getfield 32, 3) := by decide +kernel
theorem dX10_endOverdueWaits_68 : decode cX10_endOverdueWaits 68 = .ok (.aload_n 2, 1) := by decide +kernel
theorem dX10_endOverdueWaits_69 : decode cX10_endOverdueWaits 69 = .ok (.getfield 216, 3) := by decide +kernel
theorem dX10_endOverdueWaits_72 : decode cX10_endOverdueWaits 72 = .ok (.aaload, 1) := by decide +kernel
theorem dX10_endOverdueWaits_73 : decode cX10_endOverdueWaits 73 = .ok (.astore 4, 2) := by decide +kernel
theorem dX10_endOverdueWaits_75 : decode cX10_endOverdueWaits 75 = .ok (.aload_n 0, 1) := by decide +kernel
theorem dX10_endOverdueWaits_76 : decode cX10_endOverdueWaits 76 = .ok (.iload_n 1, 1) := by decide +kernel
theorem dX10_endOverdueWaits_77 : decode cX10_endOverdueWaits 77 = .ok (.aload 4, 2) := by decide +kernel
theorem dX10_endOverdueWaits_79 : decode cX10_endOverdueWaits 79 = .ok (.iconst 2, 1) := by decide +kernel
theorem dX10_endOverdueWaits_80 : decode cX10_endOverdueWaits 80 = .ok (.invokevirtual 298, 3) := by decide +kernel
theorem dX10_endOverdueWaits_83 : decode cX10_endOverdueWaits 83 = .ok (.aload 4, 2) := by decide +kernel
theorem dX10_endOverdueWaits_85 : decode cX10_endOverdueWaits 85 = .ok (.getfield 194, 3) := by decide +kernel
theorem dX10_endOverdueWaits_88 : decode cX10_endOverdueWaits 88 = .ok (.iload_n 1, 1) := by decide +kernel
theorem dX10_endOverdueWaits_89 : decode cX10_endOverdueWaits 89 = .ok (.invokevirtual 210, 3) := by decide +kernel
theorem dX10_endOverdueWaits_92 : decode cX10_endOverdueWaits 92 = .ok (.iinc 1 1, 3) := by decide +kernel
theorem dX10_endOverdueWaits_95 : decode cX10_endOverdueWaits 95 = .ok (.goto (-93), 3) := by decide +kernel
theorem dX10_endOverdueWaits_98 : decode cX10_endOverdueWaits 98 = .ok (.return_, 1) := by decide +kernel
theorem dX10_wakeQueues_0 : decode cX10_wakeQueues 0 = .ok (.iconst 0, 1) := by decide +kernel
theorem dX10_wakeQueues_1 : decode cX10_wakeQueues 1 = .ok (.istore_n 1, 1) := by decide +kernel
theorem dX10_wakeQueues_2 : decode cX10_wakeQueues 2 = .ok (.aload_n 0, 1) := by decide +kernel
theorem dX10_wakeQueues_3 : decode cX10_wakeQueues 3 = .ok (.getfield 32, 3) := by decide +kernel
theorem dX10_wakeQueues_6 : decode cX10_wakeQueues 6 = .ok (.astore_n 2, 1) := by decide +kernel
theorem dX10_wakeQueues_7 : decode cX10_wakeQueues 7 = .ok (.aload_n 2, 1) := by decide +kernel
theorem dX10_wakeQueues_8 : decode cX10_wakeQueues 8 = .ok (.arraylength, 1) := by decide +kernel
theorem dX10_wakeQueues_9 : decode cX10_wakeQueues 9 = .ok (.istore_n 3, 1) := by decide +kernel
theorem dX10_wakeQueues_10 : decode cX10_wakeQueues 10 = .ok (.iconst 0, 1) := by decide +kernel
theorem dX10_wakeQueues_11 : decode cX10_wakeQueues 11 = .ok (.istore 4, 2) := by decide +kernel
theorem dX10_wakeQueues_13 : decode cX10_wakeQueues 13 = .ok (.iload 4, 2) := by decide +kernel
theorem dX10_wakeQueues_15 : decode cX10_wakeQueues 15 = .ok (.iload_n 3, 1) := by decide +kernel
theorem dX10_wakeQueues_16 : decode cX10_wakeQueues 16 = .ok (.if_icmp .ge 62, 3) := by decide +kernel
theorem dX10_wakeQueues_19 : decode cX10_wakeQueues 19 = .ok (.aload_n 2, 1) := by decide +kernel
theorem dX10_wakeQueues_20 : decode cX10_wakeQueues 20 = .ok (.iload 4, 2) := by decide +kernel
theorem dX10_wakeQueues_22 : decode cX10_wakeQueues 22 = .ok (.aaload, 1) := by decide +kernel
theorem dX10_wakeQueues_23 : decode cX10_wakeQueues 23 = .ok (.astore 5, 2) := by decide +kernel
theorem dX10_wakeQueues_25 : decode cX10_wakeQueues 25 = .ok (.aload 5, 2) := by decide +kernel
theorem dX10_wakeQueues_27 : decode cX10_wakeQueues 27 = .ok (.getfield 152, 3) := by decide +kernel
theorem dX10_wakeQueues_30 : decode cX10_wakeQueues 30 = .ok (.iconst 4, 1) := by decide +kernel
theorem dX10_wakeQueues_31 : decode cX10_wakeQueues 31 = .ok (.if_icmp .ne 41, 3) := by decide +kernel
theorem dX10_wakeQueues_34 : decode cX10_wakeQueues 34 = .ok (.aload 5, 2) := by decide +kernel
theorem dX10_wakeQueues_36 : decode cX10_wakeQueues 36 = .ok (.invokevirtual 169, 3) := by decide +kernel
theorem dX10_wakeQueues_39 : decode cX10_wakeQueues 39 = .ok (.ifCond .ne 33, 3) := by decide +kernel
theorem dX10_wakeQueues_42 : decode cX10_wakeQueues 42 = .ok (.aload 5, 2) := by decide +kernel
theorem dX10_wakeQueues_44 : decode cX10_wakeQueues 44 = .ok (.getfield 194, 3) := by decide +kernel
theorem dX10_wakeQueues_47 : decode cX10_wakeQueues 47 = .ok (.invokevirtual 198, 3) := by decide +kernel
theorem dX10_wakeQueues_50 : decode cX10_wakeQueues 50 = .ok (.ifCond .ne 22, 3) := by decide +kernel
theorem dX10_wakeQueues_53 : decode cX10_wakeQueues 53 = .ok (.aload_n 0, 1) := by decide +kernel
theorem dX10_wakeQueues_54 : decode cX10_wakeQueues 54 = .ok (.getfield 20, 3) := by decide +kernel
theorem dX10_wakeQueues_57 : decode cX10_wakeQueues 57 = .ok (.iconst 5, 1) := by decide +kernel
theorem dX10_wakeQueues_58 : decode cX10_wakeQueues 58 = .ok (.dup2, 1) := by decide +kernel
theorem dX10_wakeQueues_59 : decode cX10_wakeQueues 59 = .ok (.iaload, 1) := by decide +kernel
theorem dX10_wakeQueues_60 : decode cX10_wakeQueues 60 = .ok (.iconst 1, 1) := by decide +kernel
theorem dX10_wakeQueues_61 : decode cX10_wakeQueues 61 = .ok (.iadd, 1) := by decide +kernel
theorem dX10_wakeQueues_62 : decode cX10_wakeQueues 62 = .ok (.iastore, 1) := by decide +kernel
theorem dX10_wakeQueues_63 : decode cX10_wakeQueues 63 = .ok (.aload_n 0, 1) := by decide +kernel
theorem dX10_wakeQueues_64 : decode cX10_wakeQueues 64 = .ok (.aload 5, 2) := by decide +kernel
theorem dX10_wakeQueues_66 : decode cX10_wakeQueues 66 = .ok (.invokevirtual 270, 3) := by decide +kernel
theorem dX10_wakeQueues_69 : decode cX10_wakeQueues 69 = .ok (.iinc 1 1, 3) := by decide +kernel
theorem dX10_wakeQueues_72 : decode cX10_wakeQueues 72 = .ok (.iinc 4 1, 3) := by decide +kernel
theorem dX10_wakeQueues_75 : decode cX10_wakeQueues 75 = .ok (.goto (-62), 3) := by decide +kernel
theorem dX10_wakeQueues_78 : decode cX10_wakeQueues 78 = .ok (.iload_n 1, 1) := by decide +kernel
theorem dX10_wakeQueues_79 : decode cX10_wakeQueues 79 = .ok (.ireturn, 1) := by decide +kernel
theorem dX10_deflateOverdue_0 : decode cX10_deflateOverdue 0 = .ok (.aload_n 0, 1) := by decide +kernel
theorem dX10_deflateOverdue_1 : decode cX10_deflateOverdue 1 = .ok (.getfield 12, 3) := by decide +kernel
theorem dX10_deflateOverdue_4 : decode cX10_deflateOverdue 4 = .ok (.iconst 5, 1) := by decide +kernel
theorem dX10_deflateOverdue_5 : decode cX10_deflateOverdue 5 = .ok (.invokevirtual 69, 3) := by decide +kernel
theorem dX10_deflateOverdue_8 : decode cX10_deflateOverdue 8 = .ok (.istore_n 1, 1) := by decide +kernel
theorem dX10_deflateOverdue_9 : decode cX10_deflateOverdue 9 = .ok (.aload_n 0, 1) := by decide +kernel
theorem dX10_deflateOverdue_10 : decode cX10_deflateOverdue 10 = .ok (.getfield 32, 3) := by decide +kernel
theorem dX10_deflateOverdue_13 : decode cX10_deflateOverdue 13 = .ok (.astore_n 2, 1) := by decide +kernel
theorem dX10_deflateOverdue_14 : decode cX10_deflateOverdue 14 = .ok (.aload_n 2, 1) := by decide +kernel
theorem dX10_deflateOverdue_15 : decode cX10_deflateOverdue 15 = .ok (.arraylength, 1) := by decide +kernel
theorem dX10_deflateOverdue_16 : decode cX10_deflateOverdue 16 = .ok (.istore_n 3, 1) := by decide +kernel
theorem dX10_deflateOverdue_17 : decode cX10_deflateOverdue 17 = .ok (.iconst 0, 1) := by decide +kernel
theorem dX10_deflateOverdue_18 : decode cX10_deflateOverdue 18 = .ok (.istore 4, 2) := by decide +kernel
theorem dX10_deflateOverdue_20 : decode cX10_deflateOverdue 20 = .ok (.iload 4, 2) := by decide +kernel
theorem dX10_deflateOverdue_22 : decode cX10_deflateOverdue 22 = .ok (.iload_n 3, 1) := by decide +kernel
theorem dX10_deflateOverdue_23 : decode cX10_deflateOverdue 23 = .ok (.if_icmp .ge 43, 3) := by decide +kernel
theorem dX10_deflateOverdue_26 : decode cX10_deflateOverdue 26 = .ok (.aload_n 2, 1) := by decide +kernel
theorem dX10_deflateOverdue_27 : decode cX10_deflateOverdue 27 = .ok (.iload 4, 2) := by decide +kernel
theorem dX10_deflateOverdue_29 : decode cX10_deflateOverdue 29 = .ok (.aaload, 1) := by decide +kernel
theorem dX10_deflateOverdue_30 : decode cX10_deflateOverdue 30 = .ok (.astore 5, 2) := by decide +kernel
theorem dX10_deflateOverdue_32 : decode cX10_deflateOverdue 32 = .ok (.aload 5, 2) := by decide +kernel
theorem dX10_deflateOverdue_34 : decode cX10_deflateOverdue 34 = .ok (.invokevirtual 252, 3) := by decide +kernel
theorem dX10_deflateOverdue_37 : decode cX10_deflateOverdue 37 = .ok (.ifCond .eq 23, 3) := by decide +kernel
theorem dX10_deflateOverdue_40 : decode cX10_deflateOverdue 40 = .ok (.aload_n 0, 1) := by decide +kernel
theorem dX10_deflateOverdue_41 : decode cX10_deflateOverdue 41 = .ok (.getfield 54, 3) := by decide +kernel
theorem dX10_deflateOverdue_44 : decode cX10_deflateOverdue 44 = .ok (.aload 5, 2) := by decide +kernel
theorem dX10_deflateOverdue_46 : decode cX10_deflateOverdue 46 = .ok (.getfield 255, 3) := by decide +kernel
theorem dX10_deflateOverdue_49 : decode cX10_deflateOverdue 49 = .ok (.isub, 1) := by decide +kernel
theorem dX10_deflateOverdue_50 : decode cX10_deflateOverdue 50 = .ok (.iload_n 1, 1) := by decide +kernel
theorem dX10_deflateOverdue_51 : decode cX10_deflateOverdue 51 = .ok (.if_icmp .lt 9, 3) := by decide +kernel
theorem dX10_deflateOverdue_54 : decode cX10_deflateOverdue 54 = .ok (.aload_n 0, 1) := by decide +kernel
theorem dX10_deflateOverdue_55 : decode cX10_deflateOverdue 55 = .ok (.aload 5, 2) := by decide +kernel
theorem dX10_deflateOverdue_57 : decode cX10_deflateOverdue 57 = .ok (.invokevirtual 258, 3) := by decide +kernel
theorem dX10_deflateOverdue_60 : decode cX10_deflateOverdue 60 = .ok (.iinc 4 1, 3) := by decide +kernel
theorem dX10_deflateOverdue_63 : decode cX10_deflateOverdue 63 = .ok (.goto (-43), 3) := by decide +kernel
theorem dX10_deflateOverdue_66 : decode cX10_deflateOverdue 66 = .ok (.return_, 1) := by decide +kernel
theorem dX10_waitsForItself_0 : decode cX10_waitsForItself 0 = .ok (.iload_n 1, 1) := by decide +kernel
theorem dX10_waitsForItself_1 : decode cX10_waitsForItself 1 = .ok (.istore_n 2, 1) := by decide +kernel
theorem dX10_waitsForItself_2 : decode cX10_waitsForItself 2 = .ok (.iconst 0, 1) := by decide +kernel
theorem dX10_waitsForItself_3 : decode cX10_waitsForItself 3 = .ok (.istore_n 3, 1) := by decide +kernel
theorem dX10_waitsForItself_4 : decode cX10_waitsForItself 4 = .ok (.iload_n 3, 1) := by decide +kernel
theorem dX10_waitsForItself_5 : decode cX10_waitsForItself 5 = .ok (.aload_n 0, 1) := by decide +kernel
theorem dX10_waitsForItself_6 : decode cX10_waitsForItself 6 = .ok (.getfield 50, 3) := by decide +kernel
theorem dX10_waitsForItself_9 : decode cX10_waitsForItself 9 = .ok (.if_icmp .ge 22, 3) := by decide +kernel
theorem dX10_waitsForItself_12 : decode cX10_waitsForItself 12 = .ok (.aload_n 0, 1) := by decide +kernel
theorem dX10_waitsForItself_13 : decode cX10_waitsForItself 13 = .ok (.iload_n 2, 1) := by decide +kernel
theorem dX10_waitsForItself_14 : decode cX10_waitsForItself 14 = .ok (.invokevirtual 316, 3) := by decide +kernel
theorem dX10_waitsForItself_17 : decode cX10_waitsForItself 17 = .ok (.istore_n 2, 1) := by decide +kernel
theorem dX10_waitsForItself_18 : decode cX10_waitsForItself 18 = .ok (.iload_n 2, 1) := by decide +kernel
theorem dX10_waitsForItself_19 : decode cX10_waitsForItself 19 = .ok (.iload_n 1, 1) := by decide +kernel
theorem dX10_waitsForItself_20 : decode cX10_waitsForItself 20 = .ok (.if_icmp .ne 5, 3) := by decide +kernel
theorem dX10_waitsForItself_23 : decode cX10_waitsForItself 23 = .ok (.iconst 1, 1) := by decide +kernel
theorem dX10_waitsForItself_24 : decode cX10_waitsForItself 24 = .ok (.ireturn, 1) := by decide +kernel
theorem dX10_waitsForItself_25 : decode cX10_waitsForItself 25 = .ok (.iinc 3 1, 3) := by decide +kernel
theorem dX10_waitsForItself_28 : decode cX10_waitsForItself 28 = .ok (.goto (-24), 3) := by decide +kernel
theorem dX10_waitsForItself_31 : decode cX10_waitsForItself 31 = .ok (.iconst 0, 1) := by decide +kernel
theorem dX10_waitsForItself_32 : decode cX10_waitsForItself 32 = .ok (.ireturn, 1) := by decide +kernel
theorem dX10_waitedFor_0 : decode cX10_waitedFor 0 = .ok (.aload_n 0, 1) := by decide +kernel
theorem dX10_waitedFor_1 : decode cX10_waitedFor 1 = .ok (.iload_n 1, 1) := by decide +kernel
theorem dX10_waitedFor_2 : decode cX10_waitedFor 2 = .ok (.invokevirtual 128, 3) := by decide +kernel
theorem dX10_waitedFor_5 : decode cX10_waitedFor 5 = .ok (.ifCond .ne 6, 3) := by decide +kernel
theorem dX10_waitedFor_8 : decode cX10_waitedFor 8 = .ok (.bipush (-8), 2) := by decide +kernel
theorem dX10_waitedFor_10 : decode cX10_waitedFor 10 = .ok (.ireturn, 1) := by decide +kernel
theorem dX10_waitedFor_11 : decode cX10_waitedFor 11 = .ok (.aload_n 0, 1) := by decide +kernel
theorem dX10_waitedFor_12 : decode cX10_waitedFor 12 = .ok (.getfield 26, 3) := by decide +kernel
theorem dX10_waitedFor_15 : decode cX10_waitedFor 15 = .ok (.iload_n 1, 1) := by decide +kernel
theorem dX10_waitedFor_16 : decode cX10_waitedFor 16 = .ok (.aaload, 1) := by decide +kernel
theorem dX10_waitedFor_17 : decode cX10_waitedFor 17 = .ok (.astore_n 2, 1) := by decide +kernel
theorem dX10_waitedFor_18 : decode cX10_waitedFor 18 = .ok (.aload_n 2, 1) := by decide +kernel
theorem dX10_waitedFor_19 : decode cX10_waitedFor 19 = .ok (.getfield 135, 3) := by decide +kernel
theorem dX10_waitedFor_22 : decode cX10_waitedFor 22 = .ok (.iconst 1, 1) := by decide +kernel
theorem dX10_waitedFor_23 : decode cX10_waitedFor 23 = .ok (.if_icmp .ne 17, 3) := by decide +kernel
theorem dX10_waitedFor_26 : decode cX10_waitedFor 26 = .ok (.aload_n 2, 1) := by decide +kernel
theorem dX10_waitedFor_27 : decode cX10_waitedFor 27 = .ok (.getfield 216, 3) := by decide +kernel
theorem dX10_waitedFor_30 : decode cX10_waitedFor 30 = .ok (.invokestatic 132, 3) := by decide +kernel
theorem dX10_waitedFor_33 : decode cX10_waitedFor 33 = .ok (.ifCond .eq 7, 3) := by decide +kernel
theorem dX10_waitedFor_36 : decode cX10_waitedFor 36 = .ok (.iconst 1, 1) := by decide +kernel
theorem dX10_waitedFor_37 : decode cX10_waitedFor 37 = .ok (.goto 4, 3) := by decide +kernel
theorem dX10_waitedFor_40 : decode cX10_waitedFor 40 = .ok (.iconst 0, 1) := by decide +kernel
theorem dX10_waitedFor_41 : decode cX10_waitedFor 41 = .ok (.istore_n 3, 1) := by decide +kernel
theorem dX10_waitedFor_42 : decode cX10_waitedFor 42 = .ok (.iload_n 3, 1) := by decide +kernel
theorem dX10_waitedFor_43 : decode cX10_waitedFor 43 = .ok (.ifCond .eq 18, 3) := by decide +kernel
theorem dX10_waitedFor_46 : decode cX10_waitedFor 46 = .ok (.aload_n 0, 1) := by decide +kernel
theorem dX10_waitedFor_47 : decode cX10_waitedFor 47 = .ok (.getfield 32, 3) := by decide +kernel
theorem dX10_waitedFor_50 : decode cX10_waitedFor 50 = .ok (.aload_n 2, 1) := by decide +kernel
theorem dX10_waitedFor_51 : decode cX10_waitedFor 51 = .ok (.getfield 216, 3) := by decide +kernel
theorem dX10_waitedFor_54 : decode cX10_waitedFor 54 = .ok (.aaload, 1) := by decide +kernel
theorem dX10_waitedFor_55 : decode cX10_waitedFor 55 = .ok (.getfield 184, 3) := by decide +kernel
theorem dX10_waitedFor_58 : decode cX10_waitedFor 58 = .ok (.goto 5, 3) := by decide +kernel
theorem dX10_waitedFor_61 : decode cX10_waitedFor 61 = .ok (.bipush (-8), 2) := by decide +kernel
theorem dX10_waitedFor_63 : decode cX10_waitedFor 63 = .ok (.ireturn, 1) := by decide +kernel
end
section
theorem dX11_init_0 : decode cX11_init 0 = .ok (.aload_n 0, 1) := by decide +kernel
theorem dX11_init_1 : decode cX11_init 1 = .ok (.invokespecial 1, 3) := by decide +kernel
theorem dX11_init_4 : decode cX11_init 4 = .ok (.aload_n 0, 1) := by decide +kernel
theorem dX11_init_5 : decode cX11_init 5 = .ok (.new 7, 3) := by decide +kernel
theorem dX11_init_8 : decode cX11_init 8 = .ok (.dup, 1) := by decide +kernel
theorem dX11_init_9 : decode cX11_init 9 = .ok (.invokespecial 9, 3) := by decide +kernel
theorem dX11_init_12 : decode cX11_init 12 = .ok (.putfield 10, 3) := by decide +kernel
theorem dX11_init_15 : decode cX11_init 15 = .ok (.aload_n 0, 1) := by decide +kernel
theorem dX11_init_16 : decode cX11_init 16 = .ok (.new 7, 3) := by decide +kernel
theorem dX11_init_19 : decode cX11_init 19 = .ok (.dup, 1) := by decide +kernel
theorem dX11_init_20 : decode cX11_init 20 = .ok (.invokespecial 9, 3) := by decide +kernel
theorem dX11_init_23 : decode cX11_init 23 = .ok (.putfield 16, 3) := by decide +kernel
theorem dX11_init_26 : decode cX11_init 26 = .ok (.aload_n 0, 1) := by decide +kernel
theorem dX11_init_27 : decode cX11_init 27 = .ok (.new 19, 3) := by decide +kernel
theorem dX11_init_30 : decode cX11_init 30 = .ok (.dup, 1) := by decide +kernel
theorem dX11_init_31 : decode cX11_init 31 = .ok (.invokespecial 21, 3) := by decide +kernel
theorem dX11_init_34 : decode cX11_init 34 = .ok (.putfield 22, 3) := by decide +kernel
theorem dX11_init_37 : decode cX11_init 37 = .ok (.aload_n 0, 1) := by decide +kernel
theorem dX11_init_38 : decode cX11_init 38 = .ok (.new 26, 3) := by decide +kernel
theorem dX11_init_41 : decode cX11_init 41 = .ok (.dup, 1) := by decide +kernel
theorem dX11_init_42 : decode cX11_init 42 = .ok (.invokespecial 28, 3) := by decide +kernel
theorem dX11_init_45 : decode cX11_init 45 = .ok (.putfield 29, 3) := by decide +kernel
theorem dX11_init_48 : decode cX11_init 48 = .ok (.aload_n 0, 1) := by decide +kernel
theorem dX11_init_49 : decode cX11_init 49 = .ok (.iconst 2, 1) := by decide +kernel
theorem dX11_init_50 : decode cX11_init 50 = .ok (.anewarray 33, 3) := by decide +kernel
theorem dX11_init_53 : decode cX11_init 53 = .ok (.putfield 35, 3) := by decide +kernel
theorem dX11_init_56 : decode cX11_init 56 = .ok (.aload_n 0, 1) := by decide +kernel
theorem dX11_init_57 : decode cX11_init 57 = .ok (.new 39, 3) := by decide +kernel
theorem dX11_init_60 : decode cX11_init 60 = .ok (.dup, 1) := by decide +kernel
theorem dX11_init_61 : decode cX11_init 61 = .ok (.invokespecial 41, 3) := by decide +kernel
theorem dX11_init_64 : decode cX11_init 64 = .ok (.putfield 42, 3) := by decide +kernel
theorem dX11_init_67 : decode cX11_init 67 = .ok (.iconst 0, 1) := by decide +kernel
theorem dX11_init_68 : decode cX11_init 68 = .ok (.istore_n 1, 1) := by decide +kernel
theorem dX11_init_69 : decode cX11_init 69 = .ok (.iload_n 1, 1) := by decide +kernel
theorem dX11_init_70 : decode cX11_init 70 = .ok (.iconst 2, 1) := by decide +kernel
theorem dX11_init_71 : decode cX11_init 71 = .ok (.if_icmp .ge 22, 3) := by decide +kernel
theorem dX11_init_74 : decode cX11_init 74 = .ok (.aload_n 0, 1) := by decide +kernel
theorem dX11_init_75 : decode cX11_init 75 = .ok (.getfield 35, 3) := by decide +kernel
theorem dX11_init_78 : decode cX11_init 78 = .ok (.iload_n 1, 1) := by decide +kernel
theorem dX11_init_79 : decode cX11_init 79 = .ok (.new 33, 3) := by decide +kernel
theorem dX11_init_82 : decode cX11_init 82 = .ok (.dup, 1) := by decide +kernel
theorem dX11_init_83 : decode cX11_init 83 = .ok (.invokespecial 46, 3) := by decide +kernel
theorem dX11_init_86 : decode cX11_init 86 = .ok (.aastore, 1) := by decide +kernel
theorem dX11_init_87 : decode cX11_init 87 = .ok (.iinc 1 1, 3) := by decide +kernel
theorem dX11_init_90 : decode cX11_init 90 = .ok (.goto (-21), 3) := by decide +kernel
theorem dX11_init_93 : decode cX11_init 93 = .ok (.return_, 1) := by decide +kernel
theorem dX11_reset_0 : decode cX11_reset 0 = .ok (.iload_n 1, 1) := by decide +kernel
theorem dX11_reset_1 : decode cX11_reset 1 = .ok (.iconst 2, 1) := by decide +kernel
theorem dX11_reset_2 : decode cX11_reset 2 = .ok (.if_icmp .lt 9, 3) := by decide +kernel
theorem dX11_reset_5 : decode cX11_reset 5 = .ok (.iload_n 1, 1) := by decide +kernel
theorem dX11_reset_6 : decode cX11_reset 6 = .ok (.bipush 6, 2) := by decide +kernel
theorem dX11_reset_8 : decode cX11_reset 8 = .ok (.if_icmp .le 6, 3) := by decide +kernel
theorem dX11_reset_11 : decode cX11_reset 11 = .ok (.bipush (-3), 2) := by decide +kernel
theorem dX11_reset_13 : decode cX11_reset 13 = .ok (.ireturn, 1) := by decide +kernel
theorem dX11_reset_14 : decode cX11_reset 14 = .ok (.aload_n 0, 1) := by decide +kernel
theorem dX11_reset_15 : decode cX11_reset 15 = .ok (.getfield 10, 3) := by decide +kernel
theorem dX11_reset_18 : decode cX11_reset 18 = .ok (.getfield 47, 3) := by decide +kernel
theorem dX11_reset_21 : decode cX11_reset 21 = .ok (.istore_n 2, 1) := by decide +kernel
theorem dX11_reset_22 : decode cX11_reset 22 = .ok (.aload_n 0, 1) := by decide +kernel
theorem dX11_reset_23 : decode cX11_reset 23 = .ok (.getfield 10, 3) := by decide +kernel
theorem dX11_reset_26 : decode cX11_reset 26 = .ok (.iload_n 1, 1) := by decide +kernel
theorem dX11_reset_27 : decode cX11_reset 27 = .ok (.invokevirtual 51, 3) := by decide +kernel
theorem dX11_reset_30 : decode cX11_reset 30 = .ok (.aload_n 0, 1) := by decide +kernel
theorem dX11_reset_31 : decode cX11_reset 31 = .ok (.getfield 22, 3) := by decide +kernel
theorem dX11_reset_34 : decode cX11_reset 34 = .ok (.invokevirtual 55, 3) := by decide +kernel
theorem dX11_reset_37 : decode cX11_reset 37 = .ok (.iload_n 2, 1) := by decide +kernel
theorem dX11_reset_38 : decode cX11_reset 38 = .ok (.ireturn, 1) := by decide +kernel
theorem dX11_set_0 : decode cX11_set 0 = .ok (.iload_n 1, 1) := by decide +kernel
theorem dX11_set_1 : decode cX11_set 1 = .ok (.iload_n 2, 1) := by decide +kernel
theorem dX11_set_2 : decode cX11_set 2 = .ok (.invokestatic 58, 3) := by decide +kernel
theorem dX11_set_5 : decode cX11_set 5 = .ok (.ifCond .ne 6, 3) := by decide +kernel
theorem dX11_set_8 : decode cX11_set 8 = .ok (.bipush (-3), 2) := by decide +kernel
theorem dX11_set_10 : decode cX11_set 10 = .ok (.ireturn, 1) := by decide +kernel
theorem dX11_set_11 : decode cX11_set 11 = .ok (.iload_n 1, 1) := by decide +kernel
theorem dX11_set_12 : decode cX11_set 12 = .ok (.bipush 6, 2) := by decide +kernel
theorem dX11_set_14 : decode cX11_set 14 = .ok (.if_icmp .ne 17, 3) := by decide +kernel
theorem dX11_set_17 : decode cX11_set 17 = .ok (.iload_n 2, 1) := by decide +kernel
theorem dX11_set_18 : decode cX11_set 18 = .ok (.aload_n 0, 1) := by decide +kernel
theorem dX11_set_19 : decode cX11_set 19 = .ok (.getfield 10, 3) := by decide +kernel
theorem dX11_set_22 : decode cX11_set 22 = .ok (.invokevirtual 64, 3) := by decide +kernel
theorem dX11_set_25 : decode cX11_set 25 = .ok (.if_icmp .ge 6, 3) := by decide +kernel
theorem dX11_set_28 : decode cX11_set 28 = .ok (.bipush (-7), 2) := by decide +kernel
theorem dX11_set_30 : decode cX11_set 30 = .ok (.ireturn, 1) := by decide +kernel
theorem dX11_set_31 : decode cX11_set 31 = .ok (.aload_n 0, 1) := by decide +kernel
theorem dX11_set_32 : decode cX11_set 32 = .ok (.getfield 10, 3) := by decide +kernel
theorem dX11_set_35 : decode cX11_set 35 = .ok (.getfield 68, 3) := by decide +kernel
theorem dX11_set_38 : decode cX11_set 38 = .ok (.iload_n 1, 1) := by decide +kernel
theorem dX11_set_39 : decode cX11_set 39 = .ok (.invokevirtual 72, 3) := by decide +kernel
theorem dX11_set_42 : decode cX11_set 42 = .ok (.istore_n 3, 1) := by decide +kernel
theorem dX11_set_43 : decode cX11_set 43 = .ok (.aload_n 0, 1) := by decide +kernel
theorem dX11_set_44 : decode cX11_set 44 = .ok (.getfield 10, 3) := by decide +kernel
theorem dX11_set_47 : decode cX11_set 47 = .ok (.getfield 68, 3) := by decide +kernel
theorem dX11_set_50 : decode cX11_set 50 = .ok (.iload_n 1, 1) := by decide +kernel
theorem dX11_set_51 : decode cX11_set 51 = .ok (.iload_n 2, 1) := by decide +kernel
theorem dX11_set_52 : decode cX11_set 52 = .ok (.invokevirtual 76, 3) := by decide +kernel
theorem dX11_set_55 : decode cX11_set 55 = .ok (.iload_n 3, 1) := by decide +kernel
theorem dX11_set_56 : decode cX11_set 56 = .ok (.ireturn, 1) := by decide +kernel
theorem dX11_setting_0 : decode cX11_setting 0 = .ok (.iload_n 1, 1) := by decide +kernel
theorem dX11_setting_1 : decode cX11_setting 1 = .ok (.invokestatic 80, 3) := by decide +kernel
theorem dX11_setting_4 : decode cX11_setting 4 = .ok (.ifCond .eq 17, 3) := by decide +kernel
theorem dX11_setting_7 : decode cX11_setting 7 = .ok (.aload_n 0, 1) := by decide +kernel
theorem dX11_setting_8 : decode cX11_setting 8 = .ok (.getfield 10, 3) := by decide +kernel
theorem dX11_setting_11 : decode cX11_setting 11 = .ok (.getfield 68, 3) := by decide +kernel
theorem dX11_setting_14 : decode cX11_setting 14 = .ok (.iload_n 1, 1) := by decide +kernel
theorem dX11_setting_15 : decode cX11_setting 15 = .ok (.invokevirtual 72, 3) := by decide +kernel
theorem dX11_setting_18 : decode cX11_setting 18 = .ok (.goto 5, 3) := by decide +kernel
theorem dX11_setting_21 : decode cX11_setting 21 = .ok (.bipush (-3), 2) := by decide +kernel
theorem dX11_setting_23 : decode cX11_setting 23 = .ok (.ireturn, 1) := by decide +kernel
theorem dX11_enter_0 : decode cX11_enter 0 = .ok (.aload_n 0, 1) := by decide +kernel
theorem dX11_enter_1 : decode cX11_enter 1 = .ok (.iconst 0, 1) := by decide +kernel
theorem dX11_enter_2 : decode cX11_enter 2 = .ok (.iload_n 1, 1) := by decide +kernel
theorem dX11_enter_3 : decode cX11_enter 3 = .ok (.iload_n 2, 1) := by decide +kernel
theorem dX11_enter_4 : decode cX11_enter 4 = .ok (.iconst 0, 1) := by decide +kernel
theorem dX11_enter_5 : decode cX11_enter 5 = .ok (.invokevirtual 86, 3) := by decide +kernel
theorem dX11_enter_8 : decode cX11_enter 8 = .ok (.ireturn, 1) := by decide +kernel
theorem dX11_exit_0 : decode cX11_exit 0 = .ok (.aload_n 0, 1) := by decide +kernel
theorem dX11_exit_1 : decode cX11_exit 1 = .ok (.iconst 1, 1) := by decide +kernel
theorem dX11_exit_2 : decode cX11_exit 2 = .ok (.iload_n 1, 1) := by decide +kernel
theorem dX11_exit_3 : decode cX11_exit 3 = .ok (.iload_n 2, 1) := by decide +kernel
theorem dX11_exit_4 : decode cX11_exit 4 = .ok (.iconst 0, 1) := by decide +kernel
theorem dX11_exit_5 : decode cX11_exit 5 = .ok (.invokevirtual 86, 3) := by decide +kernel
theorem dX11_exit_8 : decode cX11_exit 8 = .ok (.ireturn, 1) := by decide +kernel
theorem dX11_await_0 : decode cX11_await 0 = .ok (.aload_n 0, 1) := by decide +kernel
theorem dX11_await_1 : decode cX11_await 1 = .ok (.iconst 2, 1) := by decide +kernel
theorem dX11_await_2 : decode cX11_await 2 = .ok (.iload_n 1, 1) := by decide +kernel
theorem dX11_await_3 : decode cX11_await 3 = .ok (.iload_n 2, 1) := by decide +kernel
theorem dX11_await_4 : decode cX11_await 4 = .ok (.iload_n 3, 1) := by decide +kernel
theorem dX11_await_5 : decode cX11_await 5 = .ok (.invokevirtual 86, 3) := by decide +kernel
theorem dX11_await_8 : decode cX11_await 8 = .ok (.ireturn, 1) := by decide +kernel
theorem dX11_signal_0 : decode cX11_signal 0 = .ok (.aload_n 0, 1) := by decide +kernel
theorem dX11_signal_1 : decode cX11_signal 1 = .ok (.iconst 3, 1) := by decide +kernel
theorem dX11_signal_2 : decode cX11_signal 2 = .ok (.iload_n 1, 1) := by decide +kernel
theorem dX11_signal_3 : decode cX11_signal 3 = .ok (.iload_n 2, 1) := by decide +kernel
theorem dX11_signal_4 : decode cX11_signal 4 = .ok (.iconst 0, 1) := by decide +kernel
theorem dX11_signal_5 : decode cX11_signal 5 = .ok (.invokevirtual 86, 3) := by decide +kernel
theorem dX11_signal_8 : decode cX11_signal 8 = .ok (.ireturn, 1) := by decide +kernel
theorem dX11_signalAll_0 : decode cX11_signalAll 0 = .ok (.aload_n 0, 1) := by decide +kernel
theorem dX11_signalAll_1 : decode cX11_signalAll 1 = .ok (.iconst 4, 1) := by decide +kernel
theorem dX11_signalAll_2 : decode cX11_signalAll 2 = .ok (.iload_n 1, 1) := by decide +kernel
theorem dX11_signalAll_3 : decode cX11_signalAll 3 = .ok (.iload_n 2, 1) := by decide +kernel
theorem dX11_signalAll_4 : decode cX11_signalAll 4 = .ok (.iconst 0, 1) := by decide +kernel
theorem dX11_signalAll_5 : decode cX11_signalAll 5 = .ok (.invokevirtual 86, 3) := by decide +kernel
theorem dX11_signalAll_8 : decode cX11_signalAll 8 = .ok (.ireturn, 1) := by decide +kernel
theorem dX11_interrupt_0 : decode cX11_interrupt 0 = .ok (.aload_n 0, 1) := by decide +kernel
theorem dX11_interrupt_1 : decode cX11_interrupt 1 = .ok (.iconst 5, 1) := by decide +kernel
theorem dX11_interrupt_2 : decode cX11_interrupt 2 = .ok (.iload_n 1, 1) := by decide +kernel
theorem dX11_interrupt_3 : decode cX11_interrupt 3 = .ok (.iconst 0, 1) := by decide +kernel
theorem dX11_interrupt_4 : decode cX11_interrupt 4 = .ok (.iconst 0, 1) := by decide +kernel
theorem dX11_interrupt_5 : decode cX11_interrupt 5 = .ok (.invokevirtual 86, 3) := by decide +kernel
theorem dX11_interrupt_8 : decode cX11_interrupt 8 = .ok (.ireturn, 1) := by decide +kernel
theorem dX11_die_0 : decode cX11_die 0 = .ok (.aload_n 0, 1) := by decide +kernel
theorem dX11_die_1 : decode cX11_die 1 = .ok (.bipush 6, 2) := by decide +kernel
theorem dX11_die_3 : decode cX11_die 3 = .ok (.iload_n 1, 1) := by decide +kernel
theorem dX11_die_4 : decode cX11_die 4 = .ok (.iconst 0, 1) := by decide +kernel
theorem dX11_die_5 : decode cX11_die 5 = .ok (.iconst 0, 1) := by decide +kernel
theorem dX11_die_6 : decode cX11_die 6 = .ok (.invokevirtual 86, 3) := by decide +kernel
theorem dX11_die_9 : decode cX11_die 9 = .ok (.ireturn, 1) := by decide +kernel
theorem dX11_start_0 : decode cX11_start 0 = .ok (.aload_n 0, 1) := by decide +kernel
theorem dX11_start_1 : decode cX11_start 1 = .ok (.bipush 7, 2) := by decide +kernel
theorem dX11_start_3 : decode cX11_start 3 = .ok (.iload_n 1, 1) := by decide +kernel
theorem dX11_start_4 : decode cX11_start 4 = .ok (.iconst 0, 1) := by decide +kernel
theorem dX11_start_5 : decode cX11_start 5 = .ok (.iconst 0, 1) := by decide +kernel
theorem dX11_start_6 : decode cX11_start 6 = .ok (.invokevirtual 86, 3) := by decide +kernel
theorem dX11_start_9 : decode cX11_start 9 = .ok (.ireturn, 1) := by decide +kernel
theorem dX11_hash_0 : decode cX11_hash 0 = .ok (.aload_n 0, 1) := by decide +kernel
theorem dX11_hash_1 : decode cX11_hash 1 = .ok (.bipush 8, 2) := by decide +kernel
theorem dX11_hash_3 : decode cX11_hash 3 = .ok (.iload_n 1, 1) := by decide +kernel
theorem dX11_hash_4 : decode cX11_hash 4 = .ok (.iconst 0, 1) := by decide +kernel
theorem dX11_hash_5 : decode cX11_hash 5 = .ok (.iconst 0, 1) := by decide +kernel
theorem dX11_hash_6 : decode cX11_hash 6 = .ok (.invokevirtual 86, 3) := by decide +kernel
theorem dX11_hash_9 : decode cX11_hash 9 = .ok (.ireturn, 1) := by decide +kernel
theorem dX11_tick_0 : decode cX11_tick 0 = .ok (.aload_n 0, 1) := by decide +kernel
theorem dX11_tick_1 : decode cX11_tick 1 = .ok (.bipush 9, 2) := by decide +kernel
theorem dX11_tick_3 : decode cX11_tick 3 = .ok (.iload_n 1, 1) := by decide +kernel
theorem dX11_tick_4 : decode cX11_tick 4 = .ok (.iconst 0, 1) := by decide +kernel
theorem dX11_tick_5 : decode cX11_tick 5 = .ok (.iconst 0, 1) := by decide +kernel
theorem dX11_tick_6 : decode cX11_tick 6 = .ok (.invokevirtual 86, 3) := by decide +kernel
theorem dX11_tick_9 : decode cX11_tick 9 = .ok (.ireturn, 1) := by decide +kernel
theorem dX11_operate_0 : decode cX11_operate 0 = .ok (.aload_n 0, 1) := by decide +kernel
theorem dX11_operate_1 : decode cX11_operate 1 = .ok (.getfield 10, 3) := by decide +kernel
theorem dX11_operate_4 : decode cX11_operate 4 = .ok (.iload_n 1, 1) := by decide +kernel
theorem dX11_operate_5 : decode cX11_operate 5 = .ok (.iload_n 2, 1) := by decide +kernel
theorem dX11_operate_6 : decode cX11_operate 6 = .ok (.iload_n 3, 1) := by decide +kernel
theorem dX11_operate_7 : decode cX11_operate 7 = .ok (.iload 4, 2) := by decide +kernel
theorem dX11_operate_9 : decode cX11_operate 9 = .ok (.invokevirtual 90, 3) := by decide +kernel
theorem dX11_operate_12 : decode cX11_operate 12 = .ok (.istore 5, 2) := by decide +kernel
theorem dX11_operate_14 : decode cX11_operate 14 = .ok (.iload 5, 2) := by decide +kernel
theorem dX11_operate_16 : decode cX11_operate 16 = .ok (.invokestatic 93, 3) := by decide +kernel
theorem dX11_operate_19 : decode cX11_operate 19 = .ok (.ifCond .ne 15, 3) := by decide +kernel
theorem dX11_operate_22 : decode cX11_operate 22 = .ok (.aload_n 0, 1) := by decide +kernel
theorem dX11_operate_23 : decode cX11_operate 23 = .ok (.getfield 22, 3) := by decide +kernel
theorem dX11_operate_26 : decode cX11_operate 26 = .ok (.iload_n 1, 1) := by decide +kernel
theorem dX11_operate_27 : decode cX11_operate 27 = .ok (.iload_n 2, 1) := by decide +kernel
theorem dX11_operate_28 : decode cX11_operate 28 = .ok (.iload_n 3, 1) := by decide +kernel
theorem dX11_operate_29 : decode cX11_operate 29 = .ok (.iload 4, 2) := by decide +kernel
theorem dX11_operate_31 : decode cX11_operate 31 = .ok (.invokevirtual 96, 3) := by decide +kernel
theorem dX11_operate_34 : decode cX11_operate 34 = .ok (.iload 5, 2) := by decide +kernel
theorem dX11_operate_36 : decode cX11_operate 36 = .ok (.ireturn, 1) := by decide +kernel
theorem dX11_isError_0 : decode cX11_isError 0 = .ok (.iload_n 0, 1) := by decide +kernel
theorem dX11_isError_1 : decode cX11_isError 1 = .ok (.ifCond .ge 19, 3) := by decide +kernel
theorem dX11_isError_4 : decode cX11_isError 4 = .ok (.iload_n 0, 1) := by decide +kernel
theorem dX11_isError_5 : decode cX11_isError 5 = .ok (.bipush (-8), 2) := by decide +kernel
theorem dX11_isError_7 : decode cX11_isError 7 = .ok (.if_icmp .eq 13, 3) := by decide +kernel
theorem dX11_isError_10 : decode cX11_isError 10 = .ok (.iload_n 0, 1) := by decide +kernel
theorem dX11_isError_11 : decode cX11_isError 11 = .ok (.bipush (-9), 2) := by decide +kernel
theorem dX11_isError_13 : decode cX11_isError 13 = .ok (.if_icmp .eq 7, 3) := by decide +kernel
theorem dX11_isError_16 : decode cX11_isError 16 = .ok (.iconst 1, 1) := by decide +kernel
theorem dX11_isError_17 : decode cX11_isError 17 = .ok (.goto 4, 3) := by decide +kernel
theorem dX11_isError_20 : decode cX11_isError 20 = .ok (.iconst 0, 1) := by decide +kernel
theorem dX11_isError_21 : decode cX11_isError 21 = .ok (.ireturn, 1) := by decide +kernel
theorem dX11_threads_0 : decode cX11_threads 0 = .ok (.aload_n 0, 1) := by decide +kernel
theorem dX11_threads_1 : decode cX11_threads 1 = .ok (.getfield 10, 3) := by decide +kernel
theorem dX11_threads_4 : decode cX11_threads 4 = .ok (.getfield 47, 3) := by decide +kernel
theorem dX11_threads_7 : decode cX11_threads 7 = .ok (.ireturn, 1) := by decide +kernel
theorem dX11_threadState_0 : decode cX11_threadState 0 = .ok (.aload_n 0, 1) := by decide +kernel
theorem dX11_threadState_1 : decode cX11_threadState 1 = .ok (.getfield 10, 3) := by decide +kernel
theorem dX11_threadState_4 : decode cX11_threadState 4 = .ok (.iload_n 1, 1) := by decide +kernel
theorem dX11_threadState_5 : decode cX11_threadState 5 = .ok (.invokevirtual 100, 3) := by decide +kernel
theorem dX11_threadState_8 : decode cX11_threadState 8 = .ok (.ifCond .ne 5, 3) := by decide +kernel
theorem dX11_threadState_11 : decode cX11_threadState 11 = .ok (.iconst (-1), 1) := by decide +kernel
theorem dX11_threadState_12 : decode cX11_threadState 12 = .ok (.ireturn, 1) := by decide +kernel
theorem dX11_threadState_13 : decode cX11_threadState 13 = .ok (.aload_n 0, 1) := by decide +kernel
theorem dX11_threadState_14 : decode cX11_threadState 14 = .ok (.getfield 10, 3) := by decide +kernel
theorem dX11_threadState_17 : decode cX11_threadState 17 = .ok (.getfield 103, 3) := by decide +kernel
theorem dX11_threadState_20 : decode cX11_threadState 20 = .ok (.iload_n 1, 1) := by decide +kernel
theorem dX11_threadState_21 : decode cX11_threadState 21 = .ok (.aaload, 1) := by decide +kernel
theorem dX11_threadState_22 : decode cX11_threadState 22 = .ok (.astore_n 2, 1) := by decide +kernel
theorem dX11_threadState_23 : decode cX11_threadState 23 = .ok (.aload_n 2, 1) := by decide +kernel
theorem dX11_threadState_24 : decode cX11_threadState 24 = .ok (.getfield 107, 3) := by decide +kernel
theorem dX11_threadState_27 : decode cX11_threadState 27 = .ok (.ifCond .eq 13, 3) := by decide +kernel
theorem dX11_threadState_30 : decode cX11_threadState 30 = .ok (.aload_n 2, 1) := by decide +kernel
theorem dX11_threadState_31 : decode cX11_threadState 31 = .ok (.getfield 113, 3) := by decide +kernel
theorem dX11_threadState_34 : decode cX11_threadState 34 = .ok (.bipush 10, 2) := by decide +kernel
theorem dX11_threadState_36 : decode cX11_threadState 36 = .ok (.iadd, 1) := by decide +kernel
theorem dX11_threadState_37 : decode cX11_threadState 37 = .ok (.goto 7, 3) := by decide +kernel
theorem dX11_threadState_40 : decode cX11_threadState 40 = .ok (.aload_n 2, 1) := by decide +kernel
theorem dX11_threadState_41 : decode cX11_threadState 41 = .ok (.getfield 113, 3) := by decide +kernel
theorem dX11_threadState_44 : decode cX11_threadState 44 = .ok (.ireturn, 1) := by decide +kernel
theorem dX11_threadAt_0 : decode cX11_threadAt 0 = .ok (.aload_n 0, 1) := by decide +kernel
theorem dX11_threadAt_1 : decode cX11_threadAt 1 = .ok (.getfield 10, 3) := by decide +kernel
theorem dX11_threadAt_4 : decode cX11_threadAt 4 = .ok (.iload_n 1, 1) := by decide +kernel
theorem dX11_threadAt_5 : decode cX11_threadAt 5 = .ok (.invokevirtual 100, 3) := by decide +kernel
theorem dX11_threadAt_8 : decode cX11_threadAt 8 = .ok (.ifCond .eq 18, 3) := by decide +kernel
theorem dX11_threadAt_11 : decode cX11_threadAt 11 = .ok (.aload_n 0, 1) := by decide +kernel
theorem dX11_threadAt_12 : decode cX11_threadAt 12 = .ok (.getfield 10, 3) := by decide +kernel
theorem dX11_threadAt_15 : decode cX11_threadAt 15 = .ok (.getfield 103, 3) := by decide +kernel
theorem dX11_threadAt_18 : decode cX11_threadAt 18 = .ok (.iload_n 1, 1) := by decide +kernel
theorem dX11_threadAt_19 : decode cX11_threadAt 19 = .ok (.aaload, 1) := by decide +kernel
theorem dX11_threadAt_20 : decode cX11_threadAt 20 = .ok (.getfield 116, 3) := by decide +kernel
theorem dX11_threadAt_23 : decode cX11_threadAt 23 = .ok (.goto 4, 3) := by decide +kernel
theorem dX11_threadAt_26 : decode cX11_threadAt 26 = .ok (.iconst (-1), 1) := by decide +kernel
theorem dX11_threadAt_27 : decode cX11_threadAt 27 = .ok (.ireturn, 1) := by decide +kernel
theorem dX11_held_0 : decode cX11_held 0 = .ok (.aload_n 0, 1) := by decide +kernel
theorem dX11_held_1 : decode cX11_held 1 = .ok (.getfield 10, 3) := by decide +kernel
theorem dX11_held_4 : decode cX11_held 4 = .ok (.iload_n 1, 1) := by decide +kernel
theorem dX11_held_5 : decode cX11_held 5 = .ok (.invokevirtual 100, 3) := by decide +kernel
theorem dX11_held_8 : decode cX11_held 8 = .ok (.ifCond .ne 5, 3) := by decide +kernel
theorem dX11_held_11 : decode cX11_held 11 = .ok (.iconst (-1), 1) := by decide +kernel
theorem dX11_held_12 : decode cX11_held 12 = .ok (.ireturn, 1) := by decide +kernel
theorem dX11_held_13 : decode cX11_held 13 = .ok (.iconst 0, 1) := by decide +kernel
theorem dX11_held_14 : decode cX11_held 14 = .ok (.istore_n 2, 1) := by decide +kernel
theorem dX11_held_15 : decode cX11_held 15 = .ok (.iconst 0, 1) := by decide +kernel
theorem dX11_held_16 : decode cX11_held 16 = .ok (.istore_n 3, 1) := by decide +kernel
theorem dX11_held_17 : decode cX11_held 17 = .ok (.iload_n 3, 1) := by decide +kernel
theorem dX11_held_18 : decode cX11_held 18 = .ok (.bipush 8, 2) := by decide +kernel
theorem dX11_held_20 : decode cX11_held 20 = .ok (.if_icmp .ge 31, 3) := by decide +kernel
theorem dX11_held_23 : decode cX11_held 23 = .ok (.aload_n 0, 1) := by decide +kernel
theorem dX11_held_24 : decode cX11_held 24 = .ok (.getfield 10, 3) := by decide +kernel
theorem dX11_held_27 : decode cX11_held 27 = .ok (.getfield 119, 3) := by decide +kernel
theorem dX11_held_30 : decode cX11_held 30 = .ok (.iload_n 3, 1) := by decide +kernel
theorem dX11_held_31 : decode cX11_held 31 = .ok (.aaload, 1) := by decide +kernel
theorem dX11_held_32 : decode cX11_held 32 = .ok (.iload_n 1, 1) := by decide +kernel
theorem dX11_held_33 : decode cX11_held 33 = .ok (.invokevirtual 123, 3) := by decide +kernel
theorem dX11_held_36 : decode cX11_held 36 = .ok (.ifCond .eq 9, 3) := by decide +kernel
theorem dX11_held_39 : decode cX11_held 39 = .ok (.iload_n 2, 1) := by decide +kernel
theorem dX11_held_40 : decode cX11_held 40 = .ok (.iconst 1, 1) := by decide +kernel
theorem dX11_held_41 : decode cX11_held 41 = .ok (.iload_n 3, 1) := by decide +kernel
theorem dX11_held_42 : decode cX11_held 42 = .ok (.ishl, 1) := by decide +kernel
theorem dX11_held_43 : decode cX11_held 43 = .ok (.ior, 1) := by decide +kernel
theorem dX11_held_44 : decode cX11_held 44 = .ok (.istore_n 2, 1) := by decide +kernel
theorem dX11_held_45 : decode cX11_held 45 = .ok (.iinc 3 1, 3) := by decide +kernel
theorem dX11_held_48 : decode cX11_held 48 = .ok (.goto (-31), 3) := by decide +kernel
theorem dX11_held_51 : decode cX11_held 51 = .ok (.iload_n 2, 1) := by decide +kernel
theorem dX11_held_52 : decode cX11_held 52 = .ok (.ireturn, 1) := by decide +kernel
theorem dX11_waitEnd_0 : decode cX11_waitEnd 0 = .ok (.aload_n 0, 1) := by decide +kernel
theorem dX11_waitEnd_1 : decode cX11_waitEnd 1 = .ok (.getfield 10, 3) := by decide +kernel
theorem dX11_waitEnd_4 : decode cX11_waitEnd 4 = .ok (.iload_n 1, 1) := by decide +kernel
theorem dX11_waitEnd_5 : decode cX11_waitEnd 5 = .ok (.invokevirtual 100, 3) := by decide +kernel
theorem dX11_waitEnd_8 : decode cX11_waitEnd 8 = .ok (.ifCond .eq 18, 3) := by decide +kernel
theorem dX11_waitEnd_11 : decode cX11_waitEnd 11 = .ok (.aload_n 0, 1) := by decide +kernel
theorem dX11_waitEnd_12 : decode cX11_waitEnd 12 = .ok (.getfield 10, 3) := by decide +kernel
theorem dX11_waitEnd_15 : decode cX11_waitEnd 15 = .ok (.getfield 103, 3) := by decide +kernel
theorem dX11_waitEnd_18 : decode cX11_waitEnd 18 = .ok (.iload_n 1, 1) := by decide +kernel
theorem dX11_waitEnd_19 : decode cX11_waitEnd 19 = .ok (.aaload, 1) := by decide +kernel
theorem dX11_waitEnd_20 : decode cX11_waitEnd 20 = .ok (.getfield 128, 3) := by decide +kernel
theorem dX11_waitEnd_23 : decode cX11_waitEnd 23 = .ok (.goto 4, 3) := by decide +kernel
theorem dX11_waitEnd_26 : decode cX11_waitEnd 26 = .ok (.iconst (-1), 1) := by decide +kernel
theorem dX11_waitEnd_27 : decode cX11_waitEnd 27 = .ok (.ireturn, 1) := by decide +kernel
theorem dX11_deadlocked_0 : decode cX11_deadlocked 0 = .ok (.iconst 0, 1) := by decide +kernel
theorem dX11_deadlocked_1 : decode cX11_deadlocked 1 = .ok (.istore_n 1, 1) := by decide +kernel
theorem dX11_deadlocked_2 : decode cX11_deadlocked 2 = .ok (.iconst 0, 1) := by decide +kernel
theorem dX11_deadlocked_3 : decode cX11_deadlocked 3 = .ok (.istore_n 2, 1) := by decide +kernel
theorem dX11_deadlocked_4 : decode cX11_deadlocked 4 = .ok (.iload_n 2, 1) := by decide +kernel
theorem dX11_deadlocked_5 : decode cX11_deadlocked 5 = .ok (.aload_n 0, 1) := by decide +kernel
theorem dX11_deadlocked_6 : decode cX11_deadlocked 6 = .ok (.getfield 10, 3) := by decide +kernel
theorem dX11_deadlocked_9 : decode cX11_deadlocked 9 = .ok (.getfield 47, 3) := by decide +kernel
theorem dX11_deadlocked_12 : decode cX11_deadlocked 12 = .ok (.if_icmp .ge 26, 3) := by decide +kernel
theorem dX11_deadlocked_15 : decode cX11_deadlocked 15 = .ok (.aload_n 0, 1) := by decide +kernel
theorem dX11_deadlocked_16 : decode cX11_deadlocked 16 = .ok (.getfield 10, 3) := by decide +kernel
theorem dX11_deadlocked_19 : decode cX11_deadlocked 19 = .ok (.iload_n 2, 1) := by decide +kernel
theorem dX11_deadlocked_20 : decode cX11_deadlocked 20 = .ok (.invokevirtual 131, 3) := by decide +kernel
theorem dX11_deadlocked_23 : decode cX11_deadlocked 23 = .ok (.ifCond .eq 9, 3) := by decide +kernel
theorem dX11_deadlocked_26 : decode cX11_deadlocked 26 = .ok (.iload_n 1, 1) := by decide +kernel
theorem dX11_deadlocked_27 : decode cX11_deadlocked 27 = .ok (.iconst 1, 1) := by decide +kernel
theorem dX11_deadlocked_28 : decode cX11_deadlocked 28 = .ok (.iload_n 2, 1) := by decide +kernel
theorem dX11_deadlocked_29 : decode cX11_deadlocked 29 = .ok (.ishl, 1) := by decide +kernel
theorem dX11_deadlocked_30 : decode cX11_deadlocked 30 = .ok (.ior, 1) := by decide +kernel
theorem dX11_deadlocked_31 : decode cX11_deadlocked 31 = .ok (.istore_n 1, 1) := by decide +kernel
theorem dX11_deadlocked_32 : decode cX11_deadlocked 32 = .ok (.iinc 2 1, 3) := by decide +kernel
theorem dX11_deadlocked_35 : decode cX11_deadlocked 35 = .ok (.goto (-31), 3) := by decide +kernel
theorem dX11_deadlocked_38 : decode cX11_deadlocked 38 = .ok (.iload_n 1, 1) := by decide +kernel
theorem dX11_deadlocked_39 : decode cX11_deadlocked 39 = .ok (.ireturn, 1) := by decide +kernel
theorem dX11_lockState_0 : decode cX11_lockState 0 = .ok (.iload_n 1, 1) := by decide +kernel
theorem dX11_lockState_1 : decode cX11_lockState 1 = .ok (.invokestatic 134, 3) := by decide +kernel
theorem dX11_lockState_4 : decode cX11_lockState 4 = .ok (.ifCond .ne 6, 3) := by decide +kernel
theorem dX11_lockState_7 : decode cX11_lockState 7 = .ok (.bipush (-2), 2) := by decide +kernel
theorem dX11_lockState_9 : decode cX11_lockState 9 = .ok (.ireturn, 1) := by decide +kernel
theorem dX11_lockState_10 : decode cX11_lockState 10 = .ok (.aload_n 0, 1) := by decide +kernel
theorem dX11_lockState_11 : decode cX11_lockState 11 = .ok (.getfield 10, 3) := by decide +kernel
theorem dX11_lockState_14 : decode cX11_lockState 14 = .ok (.getfield 119, 3) := by decide +kernel
theorem dX11_lockState_17 : decode cX11_lockState 17 = .ok (.iload_n 1, 1) := by decide +kernel
theorem dX11_lockState_18 : decode cX11_lockState 18 = .ok (.aaload, 1) := by decide +kernel
theorem dX11_lockState_19 : decode cX11_lockState 19 = .ok (.astore_n 2, 1) := by decide +kernel
theorem dX11_lockState_20 : decode cX11_lockState 20 = .ok (.aload_n 2, 1) := by decide +kernel
theorem dX11_lockState_21 : decode cX11_lockState 21 = .ok (.getfield 137, 3) := by decide +kernel
theorem dX11_lockState_24 : decode cX11_lockState 24 = .ok (.ifCond .eq 13, 3) := by decide +kernel
theorem dX11_lockState_27 : decode cX11_lockState 27 = .ok (.aload_n 2, 1) := by decide +kernel
theorem dX11_lockState_28 : decode cX11_lockState 28 = .ok (.getfield 140, 3) := by decide +kernel
theorem dX11_lockState_31 : decode cX11_lockState 31 = .ok (.bipush 10, 2) := by decide +kernel
theorem dX11_lockState_33 : decode cX11_lockState 33 = .ok (.iadd, 1) := by decide +kernel
theorem dX11_lockState_34 : decode cX11_lockState 34 = .ok (.goto 7, 3) := by decide +kernel
theorem dX11_lockState_37 : decode cX11_lockState 37 = .ok (.aload_n 2, 1) := by decide +kernel
theorem dX11_lockState_38 : decode cX11_lockState 38 = .ok (.getfield 140, 3) := by decide +kernel
theorem dX11_lockState_41 : decode cX11_lockState 41 = .ok (.ireturn, 1) := by decide +kernel
theorem dX11_owner_0 : decode cX11_owner 0 = .ok (.iload_n 1, 1) := by decide +kernel
theorem dX11_owner_1 : decode cX11_owner 1 = .ok (.invokestatic 134, 3) := by decide +kernel
theorem dX11_owner_4 : decode cX11_owner 4 = .ok (.ifCond .eq 18, 3) := by decide +kernel
theorem dX11_owner_7 : decode cX11_owner 7 = .ok (.aload_n 0, 1) := by decide +kernel
theorem dX11_owner_8 : decode cX11_owner 8 = .ok (.getfield 10, 3) := by decide +kernel
theorem dX11_owner_11 : decode cX11_owner 11 = .ok (.getfield 119, 3) := by decide +kernel
theorem dX11_owner_14 : decode cX11_owner 14 = .ok (.iload_n 1, 1) := by decide +kernel
theorem dX11_owner_15 : decode cX11_owner 15 = .ok (.aaload, 1) := by decide +kernel
theorem dX11_owner_16 : decode cX11_owner 16 = .ok (.getfield 141, 3) := by decide +kernel
theorem dX11_owner_19 : decode cX11_owner 19 = .ok (.goto 5, 3) := by decide +kernel
theorem dX11_owner_22 : decode cX11_owner 22 = .ok (.bipush (-2), 2) := by decide +kernel
theorem dX11_owner_24 : decode cX11_owner 24 = .ok (.ireturn, 1) := by decide +kernel
theorem dX11_count_0 : decode cX11_count 0 = .ok (.iload_n 1, 1) := by decide +kernel
theorem dX11_count_1 : decode cX11_count 1 = .ok (.invokestatic 134, 3) := by decide +kernel
theorem dX11_count_4 : decode cX11_count 4 = .ok (.ifCond .eq 18, 3) := by decide +kernel
theorem dX11_count_7 : decode cX11_count 7 = .ok (.aload_n 0, 1) := by decide +kernel
theorem dX11_count_8 : decode cX11_count 8 = .ok (.getfield 10, 3) := by decide +kernel
theorem dX11_count_11 : decode cX11_count 11 = .ok (.getfield 119, 3) := by decide +kernel
theorem dX11_count_14 : decode cX11_count 14 = .ok (.iload_n 1, 1) := by decide +kernel
theorem dX11_count_15 : decode cX11_count 15 = .ok (.aaload, 1) := by decide +kernel
theorem dX11_count_16 : decode cX11_count 16 = .ok (.getfield 144, 3) := by decide +kernel
theorem dX11_count_19 : decode cX11_count 19 = .ok (.goto 5, 3) := by decide +kernel
theorem dX11_count_22 : decode cX11_count 22 = .ok (.bipush (-2), 2) := by decide +kernel
theorem dX11_count_24 : decode cX11_count 24 = .ok (.ireturn, 1) := by decide +kernel
theorem dX11_bias_0 : decode cX11_bias 0 = .ok (.iload_n 1, 1) := by decide +kernel
theorem dX11_bias_1 : decode cX11_bias 1 = .ok (.invokestatic 134, 3) := by decide +kernel
theorem dX11_bias_4 : decode cX11_bias 4 = .ok (.ifCond .ne 6, 3) := by decide +kernel
theorem dX11_bias_7 : decode cX11_bias 7 = .ok (.bipush (-2), 2) := by decide +kernel
theorem dX11_bias_9 : decode cX11_bias 9 = .ok (.ireturn, 1) := by decide +kernel
theorem dX11_bias_10 : decode cX11_bias 10 = .ok (.aload_n 0, 1) := by decide +kernel
theorem dX11_bias_11 : decode cX11_bias 11 = .ok (.getfield 10, 3) := by decide +kernel
theorem dX11_bias_14 : decode cX11_bias 14 = .ok (.getfield 119, 3) := by decide +kernel
theorem dX11_bias_17 : decode cX11_bias 17 = .ok (.iload_n 1, 1) := by decide +kernel
theorem dX11_bias_18 : decode cX11_bias 18 = .ok (.aaload, 1) := by decide +kernel
theorem dX11_bias_19 : decode cX11_bias 19 = .ok (.astore_n 2, 1) := by decide +kernel
theorem dX11_bias_20 : decode cX11_bias 20 = .ok (.aload_n 2, 1) := by decide +kernel
theorem dX11_bias_21 : decode cX11_bias 21 = .ok (.getfield 140, 3) := by decide +kernel
theorem dX11_bias_24 : decode cX11_bias 24 = .ok (.iconst 2, 1) := by decide +kernel
theorem dX11_bias_25 : decode cX11_bias 25 = .ok (.if_icmp .eq 6, 3) := by decide +kernel
theorem dX11_bias_28 : decode cX11_bias 28 = .ok (.bipush (-8), 2) := by decide +kernel
theorem dX11_bias_30 : decode cX11_bias 30 = .ok (.ireturn, 1) := by decide +kernel
theorem dX11_bias_31 : decode cX11_bias 31 = .ok (.aload_n 0, 1) := by decide +kernel
theorem dX11_bias_32 : decode cX11_bias 32 = .ok (.getfield 10, 3) := by decide +kernel
theorem dX11_bias_35 : decode cX11_bias 35 = .ok (.aload_n 2, 1) := by decide +kernel
theorem dX11_bias_36 : decode cX11_bias 36 = .ok (.invokevirtual 147, 3) := by decide +kernel
theorem dX11_bias_39 : decode cX11_bias 39 = .ok (.ifCond .eq 10, 3) := by decide +kernel
theorem dX11_bias_42 : decode cX11_bias 42 = .ok (.aload_n 2, 1) := by decide +kernel
theorem dX11_bias_43 : decode cX11_bias 43 = .ok (.getfield 151, 3) := by decide +kernel
theorem dX11_bias_46 : decode cX11_bias 46 = .ok (.goto 10, 3) := by decide +kernel
theorem dX11_bias_49 : decode cX11_bias 49 = .ok (.aload_n 2, 1) := by decide +kernel
theorem dX11_bias_50 : decode cX11_bias 50 = .ok (.getfield 151, 3) := by decide +kernel
theorem dX11_bias_53 : decode cX11_bias 53 = .ok (.bipush 10, 2) := by decide +kernel
theorem dX11_bias_55 : decode cX11_bias 55 = .ok (.iadd, 1) := by decide +kernel
theorem dX11_bias_56 : decode cX11_bias 56 = .ok (.ireturn, 1) := by decide +kernel
theorem dX11_queued_0 : decode cX11_queued 0 = .ok (.iload_n 1, 1) := by decide +kernel
theorem dX11_queued_1 : decode cX11_queued 1 = .ok (.invokestatic 134, 3) := by decide +kernel
theorem dX11_queued_4 : decode cX11_queued 4 = .ok (.ifCond .ne 6, 3) := by decide +kernel
theorem dX11_queued_7 : decode cX11_queued 7 = .ok (.bipush (-2), 2) := by decide +kernel
theorem dX11_queued_9 : decode cX11_queued 9 = .ok (.ireturn, 1) := by decide +kernel
theorem dX11_queued_10 : decode cX11_queued 10 = .ok (.iload_n 2, 1) := by decide +kernel
theorem dX11_queued_11 : decode cX11_queued 11 = .ok (.ifCond .ge 8, 3) := by decide +kernel
theorem dX11_queued_14 : decode cX11_queued 14 = .ok (.bipush (-3), 2) := by decide +kernel
theorem dX11_queued_16 : decode cX11_queued 16 = .ok (.goto 19, 3) := by decide +kernel
theorem dX11_queued_19 : decode cX11_queued 19 = .ok (.aload_n 0, 1) := by decide +kernel
theorem dX11_queued_20 : decode cX11_queued 20 = .ok (.getfield 10, 3) := by decide +kernel
theorem dX11_queued_23 : decode cX11_queued 23 = .ok (.getfield 119, 3) := by decide +kernel
theorem dX11_queued_26 : decode cX11_queued 26 = .ok (.iload_n 1, 1) := by decide +kernel
theorem dX11_queued_27 : decode cX11_queued 27 = .ok (.aaload, 1) := by decide +kernel
theorem dX11_queued_28 : decode cX11_queued 28 = .ok (.getfield 154, 3) := by decide +kernel
theorem dX11_queued_31 : decode cX11_queued 31 = .ok (.iload_n 2, 1) := by decide +kernel
theorem dX11_queued_32 : decode cX11_queued 32 = .ok (.invokevirtual 158, 3) := by decide +kernel
theorem dX11_queued_35 : decode cX11_queued 35 = .ok (.ireturn, 1) := by decide +kernel
theorem dX11_waiting_0 : decode cX11_waiting 0 = .ok (.iload_n 1, 1) := by decide +kernel
theorem dX11_waiting_1 : decode cX11_waiting 1 = .ok (.invokestatic 134, 3) := by decide +kernel
theorem dX11_waiting_4 : decode cX11_waiting 4 = .ok (.ifCond .ne 6, 3) := by decide +kernel
theorem dX11_waiting_7 : decode cX11_waiting 7 = .ok (.bipush (-2), 2) := by decide +kernel
theorem dX11_waiting_9 : decode cX11_waiting 9 = .ok (.ireturn, 1) := by decide +kernel
theorem dX11_waiting_10 : decode cX11_waiting 10 = .ok (.iload_n 2, 1) := by decide +kernel
theorem dX11_waiting_11 : decode cX11_waiting 11 = .ok (.ifCond .ge 8, 3) := by decide +kernel
theorem dX11_waiting_14 : decode cX11_waiting 14 = .ok (.bipush (-3), 2) := by decide +kernel
theorem dX11_waiting_16 : decode cX11_waiting 16 = .ok (.goto 19, 3) := by decide +kernel
theorem dX11_waiting_19 : decode cX11_waiting 19 = .ok (.aload_n 0, 1) := by decide +kernel
theorem dX11_waiting_20 : decode cX11_waiting 20 = .ok (.getfield 10, 3) := by decide +kernel
theorem dX11_waiting_23 : decode cX11_waiting 23 = .ok (.getfield 119, 3) := by decide +kernel
theorem dX11_waiting_26 : decode cX11_waiting 26 = .ok (.iload_n 1, 1) := by decide +kernel
theorem dX11_waiting_27 : decode cX11_waiting 27 = .ok (.aaload, 1) := by decide +kernel
theorem dX11_waiting_28 : decode cX11_waiting 28 = .ok (.getfield 163, 3) := by decide +kernel
theorem dX11_waiting_31 : decode cX11_waiting 31 = .ok (.iload_n 2, 1) := by decide +kernel
theorem dX11_waiting_32 : decode cX11_waiting 32 = .ok (.invokevirtual 158, 3) := by decide +kernel
theorem dX11_waiting_35 : decode cX11_waiting 35 = .ok (.ireturn, 1) := by decide +kernel
theorem dX11_describe_0 : decode cX11_describe 0 = .ok (.iload_n 1, 1) := by decide +kernel
theorem dX11_describe_1 : decode cX11_describe 1 = .ok (.invokestatic 134, 3) := by decide +kernel
theorem dX11_describe_4 : decode cX11_describe 4 = .ok (.ifCond .ne 6, 3) := by decide +kernel
theorem dX11_describe_7 : decode cX11_describe 7 = .ok (.bipush (-2), 2) := by decide +kernel
theorem dX11_describe_9 : decode cX11_describe 9 = .ok (.ireturn, 1) := by decide +kernel
theorem dX11_describe_10 : decode cX11_describe 10 = .ok (.iload_n 2, 1) := by decide +kernel
theorem dX11_describe_11 : decode cX11_describe 11 = .ok (.ifCond .ge 6, 3) := by decide +kernel
theorem dX11_describe_14 : decode cX11_describe 14 = .ok (.bipush (-3), 2) := by decide +kernel
theorem dX11_describe_16 : decode cX11_describe 16 = .ok (.ireturn, 1) := by decide +kernel
theorem dX11_describe_17 : decode cX11_describe 17 = .ok (.aload_n 0, 1) := by decide +kernel
theorem dX11_describe_18 : decode cX11_describe 18 = .ok (.getfield 10, 3) := by decide +kernel
theorem dX11_describe_21 : decode cX11_describe 21 = .ok (.getfield 119, 3) := by decide +kernel
theorem dX11_describe_24 : decode cX11_describe 24 = .ok (.iload_n 1, 1) := by decide +kernel
theorem dX11_describe_25 : decode cX11_describe 25 = .ok (.aaload, 1) := by decide +kernel
theorem dX11_describe_26 : decode cX11_describe 26 = .ok (.astore_n 3, 1) := by decide +kernel
theorem dX11_describe_27 : decode cX11_describe 27 = .ok (.aload_n 0, 1) := by decide +kernel
theorem dX11_describe_28 : decode cX11_describe 28 = .ok (.getfield 42, 3) := by decide +kernel
theorem dX11_describe_31 : decode cX11_describe 31 = .ok (.iconst 0, 1) := by decide +kernel
theorem dX11_describe_32 : decode cX11_describe 32 = .ok (.invokevirtual 166, 3) := by decide +kernel
theorem dX11_describe_35 : decode cX11_describe 35 = .ok (.aload_n 3, 1) := by decide +kernel
theorem dX11_describe_36 : decode cX11_describe 36 = .ok (.aload_n 0, 1) := by decide +kernel
theorem dX11_describe_37 : decode cX11_describe 37 = .ok (.getfield 42, 3) := by decide +kernel
theorem dX11_describe_40 : decode cX11_describe 40 = .ok (.aload_n 0, 1) := by decide +kernel
theorem dX11_describe_41 : decode cX11_describe 41 = .ok (.getfield 10, 3) := by decide +kernel
theorem dX11_describe_44 : decode cX11_describe 44 = .ok (.aload_n 3, 1) := by decide +kernel
theorem dX11_describe_45 : decode cX11_describe 45 = .ok (.invokevirtual 147, 3) := by decide +kernel
theorem dX11_describe_48 : decode cX11_describe 48 = .ok (.invokevirtual 169, 3) := by decide +kernel
theorem dX11_describe_51 : decode cX11_describe 51 = .ok (.iload_n 2, 1) := by decide +kernel
theorem dX11_describe_52 : decode cX11_describe 52 = .ok (.aload_n 0, 1) := by decide +kernel
theorem dX11_describe_53 : decode cX11_describe 53 = .ok (.getfield 42, 3) := by decide +kernel
theorem dX11_describe_56 : decode cX11_describe 56 = .ok (.invokevirtual 173, 3) := by decide +kernel
theorem dX11_describe_59 : decode cX11_describe 59 = .ok (.if_icmp .lt 6, 3) := by decide +kernel
theorem dX11_describe_62 : decode cX11_describe 62 = .ok (.bipush (-8), 2) := by decide +kernel
theorem dX11_describe_64 : decode cX11_describe 64 = .ok (.ireturn, 1) := by decide +kernel
theorem dX11_describe_65 : decode cX11_describe 65 = .ok (.aload_n 0, 1) := by decide +kernel
theorem dX11_describe_66 : decode cX11_describe 66 = .ok (.getfield 42, 3) := by decide +kernel
theorem dX11_describe_69 : decode cX11_describe 69 = .ok (.iload_n 2, 1) := by decide +kernel
theorem dX11_describe_70 : decode cX11_describe 70 = .ok (.invokevirtual 176, 3) := by decide +kernel
theorem dX11_describe_73 : decode cX11_describe 73 = .ok (.ireturn, 1) := by decide +kernel
theorem dX11_isObject_0 : decode cX11_isObject 0 = .ok (.iload_n 0, 1) := by decide +kernel
theorem dX11_isObject_1 : decode cX11_isObject 1 = .ok (.ifCond .lt 13, 3) := by decide +kernel
theorem dX11_isObject_4 : decode cX11_isObject 4 = .ok (.iload_n 0, 1) := by decide +kernel
theorem dX11_isObject_5 : decode cX11_isObject 5 = .ok (.bipush 8, 2) := by decide +kernel
theorem dX11_isObject_7 : decode cX11_isObject 7 = .ok (.if_icmp .ge 7, 3) := by decide +kernel
theorem dX11_isObject_10 : decode cX11_isObject 10 = .ok (.iconst 1, 1) := by decide +kernel
theorem dX11_isObject_11 : decode cX11_isObject 11 = .ok (.goto 4, 3) := by decide +kernel
theorem dX11_isObject_14 : decode cX11_isObject 14 = .ok (.iconst 0, 1) := by decide +kernel
theorem dX11_isObject_15 : decode cX11_isObject 15 = .ok (.ireturn, 1) := by decide +kernel
theorem dX11_type_0 : decode cX11_type 0 = .ok (.iload_n 1, 1) := by decide +kernel
theorem dX11_type_1 : decode cX11_type 1 = .ok (.ifCond .lt 8, 3) := by decide +kernel
theorem dX11_type_4 : decode cX11_type 4 = .ok (.iload_n 1, 1) := by decide +kernel
theorem dX11_type_5 : decode cX11_type 5 = .ok (.iconst 3, 1) := by decide +kernel
theorem dX11_type_6 : decode cX11_type 6 = .ok (.if_icmp .lt 6, 3) := by decide +kernel
theorem dX11_type_9 : decode cX11_type 9 = .ok (.bipush (-3), 2) := by decide +kernel
theorem dX11_type_11 : decode cX11_type 11 = .ok (.ireturn, 1) := by decide +kernel
theorem dX11_type_12 : decode cX11_type 12 = .ok (.aload_n 0, 1) := by decide +kernel
theorem dX11_type_13 : decode cX11_type 13 = .ok (.getfield 10, 3) := by decide +kernel
theorem dX11_type_16 : decode cX11_type 16 = .ok (.getfield 180, 3) := by decide +kernel
theorem dX11_type_19 : decode cX11_type 19 = .ok (.iload_n 1, 1) := by decide +kernel
theorem dX11_type_20 : decode cX11_type 20 = .ok (.aaload, 1) := by decide +kernel
theorem dX11_type_21 : decode cX11_type 21 = .ok (.astore_n 3, 1) := by decide +kernel
theorem dX11_type_22 : decode cX11_type 22 = .ok (.iload_n 2, 1) := by decide +kernel
theorem dX11_type_23 : decode cX11_type 23 = .ok (.tableswitch 48 0 2 #[25, 30, 35], 25) := by decide +kernel
theorem dX11_type_48 : decode cX11_type 48 = .ok (.aload_n 3, 1) := by decide +kernel
theorem dX11_type_49 : decode cX11_type 49 = .ok (.getfield 184, 3) := by decide +kernel
theorem dX11_type_52 : decode cX11_type 52 = .ok (.ireturn, 1) := by decide +kernel
theorem dX11_type_53 : decode cX11_type 53 = .ok (.aload_n 3, 1) := by decide +kernel
theorem dX11_type_54 : decode cX11_type 54 = .ok (.getfield 189, 3) := by decide +kernel
theorem dX11_type_57 : decode cX11_type 57 = .ok (.ireturn, 1) := by decide +kernel
theorem dX11_type_58 : decode cX11_type 58 = .ok (.aload_n 3, 1) := by decide +kernel
theorem dX11_type_59 : decode cX11_type 59 = .ok (.getfield 192, 3) := by decide +kernel
theorem dX11_type_62 : decode cX11_type 62 = .ok (.ifCond .eq 7, 3) := by decide +kernel
theorem dX11_type_65 : decode cX11_type 65 = .ok (.iconst 1, 1) := by decide +kernel
theorem dX11_type_66 : decode cX11_type 66 = .ok (.goto 4, 3) := by decide +kernel
theorem dX11_type_69 : decode cX11_type 69 = .ok (.iconst 0, 1) := by decide +kernel
theorem dX11_type_70 : decode cX11_type 70 = .ok (.ireturn, 1) := by decide +kernel
theorem dX11_type_71 : decode cX11_type 71 = .ok (.bipush (-3), 2) := by decide +kernel
theorem dX11_type_73 : decode cX11_type 73 = .ok (.ireturn, 1) := by decide +kernel
theorem dX11_time_0 : decode cX11_time 0 = .ok (.aload_n 0, 1) := by decide +kernel
theorem dX11_time_1 : decode cX11_time 1 = .ok (.getfield 10, 3) := by decide +kernel
theorem dX11_time_4 : decode cX11_time 4 = .ok (.getfield 195, 3) := by decide +kernel
theorem dX11_time_7 : decode cX11_time 7 = .ok (.ireturn, 1) := by decide +kernel
theorem dX11_monitors_0 : decode cX11_monitors 0 = .ok (.aload_n 0, 1) := by decide +kernel
theorem dX11_monitors_1 : decode cX11_monitors 1 = .ok (.getfield 10, 3) := by decide +kernel
theorem dX11_monitors_4 : decode cX11_monitors 4 = .ok (.invokevirtual 64, 3) := by decide +kernel
theorem dX11_monitors_7 : decode cX11_monitors 7 = .ok (.ireturn, 1) := by decide +kernel
theorem dX11_counted_0 : decode cX11_counted 0 = .ok (.iload_n 1, 1) := by decide +kernel
theorem dX11_counted_1 : decode cX11_counted 1 = .ok (.ifCond .lt 9, 3) := by decide +kernel
theorem dX11_counted_4 : decode cX11_counted 4 = .ok (.iload_n 1, 1) := by decide +kernel
theorem dX11_counted_5 : decode cX11_counted 5 = .ok (.bipush 9, 2) := by decide +kernel
theorem dX11_counted_7 : decode cX11_counted 7 = .ok (.if_icmp .lt 8, 3) := by decide +kernel
theorem dX11_counted_10 : decode cX11_counted 10 = .ok (.bipush (-3), 2) := by decide +kernel
theorem dX11_counted_12 : decode cX11_counted 12 = .ok (.goto 12, 3) := by decide +kernel
theorem dX11_counted_15 : decode cX11_counted 15 = .ok (.aload_n 0, 1) := by decide +kernel
theorem dX11_counted_16 : decode cX11_counted 16 = .ok (.getfield 10, 3) := by decide +kernel
theorem dX11_counted_19 : decode cX11_counted 19 = .ok (.getfield 200, 3) := by decide +kernel
theorem dX11_counted_22 : decode cX11_counted 22 = .ok (.iload_n 1, 1) := by decide +kernel
theorem dX11_counted_23 : decode cX11_counted 23 = .ok (.iaload, 1) := by decide +kernel
theorem dX11_counted_24 : decode cX11_counted 24 = .ok (.ireturn, 1) := by decide +kernel
theorem dX11_cost_0 : decode cX11_cost 0 = .ok (.aload_n 0, 1) := by decide +kernel
theorem dX11_cost_1 : decode cX11_cost 1 = .ok (.getfield 10, 3) := by decide +kernel
theorem dX11_cost_4 : decode cX11_cost 4 = .ok (.getfield 200, 3) := by decide +kernel
theorem dX11_cost_7 : decode cX11_cost 7 = .ok (.invokestatic 204, 3) := by decide +kernel
theorem dX11_cost_10 : decode cX11_cost 10 = .ok (.ireturn, 1) := by decide +kernel
theorem dX11_recorded_0 : decode cX11_recorded 0 = .ok (.aload_n 0, 1) := by decide +kernel
theorem dX11_recorded_1 : decode cX11_recorded 1 = .ok (.getfield 22, 3) := by decide +kernel
theorem dX11_recorded_4 : decode cX11_recorded 4 = .ok (.getfield 208, 3) := by decide +kernel
theorem dX11_recorded_7 : decode cX11_recorded 7 = .ok (.ireturn, 1) := by decide +kernel
theorem dX11_replayCost_0 : decode cX11_replayCost 0 = .ok (.iload_n 1, 1) := by decide +kernel
theorem dX11_replayCost_1 : decode cX11_replayCost 1 = .ok (.iload_n 2, 1) := by decide +kernel
theorem dX11_replayCost_2 : decode cX11_replayCost 2 = .ok (.invokestatic 58, 3) := by decide +kernel
theorem dX11_replayCost_5 : decode cX11_replayCost 5 = .ok (.ifCond .eq 12, 3) := by decide +kernel
theorem dX11_replayCost_8 : decode cX11_replayCost 8 = .ok (.aload_n 0, 1) := by decide +kernel
theorem dX11_replayCost_9 : decode cX11_replayCost 9 = .ok (.iload_n 1, 1) := by decide +kernel
theorem dX11_replayCost_10 : decode cX11_replayCost 10 = .ok (.iload_n 2, 1) := by decide +kernel
theorem dX11_replayCost_11 : decode cX11_replayCost 11 = .ok (.invokevirtual 211, 3) := by decide +kernel
theorem dX11_replayCost_14 : decode cX11_replayCost 14 = .ok (.goto 5, 3) := by decide +kernel
theorem dX11_replayCost_17 : decode cX11_replayCost 17 = .ok (.bipush (-3), 2) := by decide +kernel
theorem dX11_replayCost_19 : decode cX11_replayCost 19 = .ok (.ireturn, 1) := by decide +kernel
theorem dX11_bestValue_0 : decode cX11_bestValue 0 = .ok (.iload_n 1, 1) := by decide +kernel
theorem dX11_bestValue_1 : decode cX11_bestValue 1 = .ok (.invokestatic 80, 3) := by decide +kernel
theorem dX11_bestValue_4 : decode cX11_bestValue 4 = .ok (.ifCond .ne 6, 3) := by decide +kernel
theorem dX11_bestValue_7 : decode cX11_bestValue 7 = .ok (.bipush (-3), 2) := by decide +kernel
theorem dX11_bestValue_9 : decode cX11_bestValue 9 = .ok (.ireturn, 1) := by decide +kernel
theorem dX11_bestValue_10 : decode cX11_bestValue 10 = .ok (.iload_n 1, 1) := by decide +kernel
theorem dX11_bestValue_11 : decode cX11_bestValue 11 = .ok (.invokestatic 215, 3) := by decide +kernel
theorem dX11_bestValue_14 : decode cX11_bestValue 14 = .ok (.istore_n 2, 1) := by decide +kernel
theorem dX11_bestValue_15 : decode cX11_bestValue 15 = .ok (.aload_n 0, 1) := by decide +kernel
theorem dX11_bestValue_16 : decode cX11_bestValue 16 = .ok (.iload_n 1, 1) := by decide +kernel
theorem dX11_bestValue_17 : decode cX11_bestValue 17 = .ok (.iload_n 2, 1) := by decide +kernel
theorem dX11_bestValue_18 : decode cX11_bestValue 18 = .ok (.invokevirtual 211, 3) := by decide +kernel
theorem dX11_bestValue_21 : decode cX11_bestValue 21 = .ok (.istore_n 3, 1) := by decide +kernel
theorem dX11_bestValue_22 : decode cX11_bestValue 22 = .ok (.iload_n 2, 1) := by decide +kernel
theorem dX11_bestValue_23 : decode cX11_bestValue 23 = .ok (.iconst 1, 1) := by decide +kernel
theorem dX11_bestValue_24 : decode cX11_bestValue 24 = .ok (.iadd, 1) := by decide +kernel
theorem dX11_bestValue_25 : decode cX11_bestValue 25 = .ok (.istore 4, 2) := by decide +kernel
theorem dX11_bestValue_27 : decode cX11_bestValue 27 = .ok (.iload 4, 2) := by decide +kernel
theorem dX11_bestValue_29 : decode cX11_bestValue 29 = .ok (.iload_n 1, 1) := by decide +kernel
theorem dX11_bestValue_30 : decode cX11_bestValue 30 = .ok (.invokestatic 218, 3) := by decide +kernel
theorem dX11_bestValue_33 : decode cX11_bestValue 33 = .ok (.if_icmp .gt 30, 3) := by decide +kernel
theorem dX11_bestValue_36 : decode cX11_bestValue 36 = .ok (.aload_n 0, 1) := by decide +kernel
theorem dX11_bestValue_37 : decode cX11_bestValue 37 = .ok (.iload_n 1, 1) := by decide +kernel
theorem dX11_bestValue_38 : decode cX11_bestValue 38 = .ok (.iload 4, 2) := by decide +kernel
theorem dX11_bestValue_40 : decode cX11_bestValue 40 = .ok (.invokevirtual 211, 3) := by decide +kernel
theorem dX11_bestValue_43 : decode cX11_bestValue 43 = .ok (.istore 5, 2) := by decide +kernel
theorem dX11_bestValue_45 : decode cX11_bestValue 45 = .ok (.iload 5, 2) := by decide +kernel
theorem dX11_bestValue_47 : decode cX11_bestValue 47 = .ok (.iload_n 3, 1) := by decide +kernel
theorem dX11_bestValue_48 : decode cX11_bestValue 48 = .ok (.if_icmp .ge 9, 3) := by decide +kernel
theorem dX11_bestValue_51 : decode cX11_bestValue 51 = .ok (.iload 4, 2) := by decide +kernel
theorem dX11_bestValue_53 : decode cX11_bestValue 53 = .ok (.istore_n 2, 1) := by decide +kernel
theorem dX11_bestValue_54 : decode cX11_bestValue 54 = .ok (.iload 5, 2) := by decide +kernel
theorem dX11_bestValue_56 : decode cX11_bestValue 56 = .ok (.istore_n 3, 1) := by decide +kernel
theorem dX11_bestValue_57 : decode cX11_bestValue 57 = .ok (.iinc 4 1, 3) := by decide +kernel
theorem dX11_bestValue_60 : decode cX11_bestValue 60 = .ok (.goto (-33), 3) := by decide +kernel
theorem dX11_bestValue_63 : decode cX11_bestValue 63 = .ok (.iload_n 2, 1) := by decide +kernel
theorem dX11_bestValue_64 : decode cX11_bestValue 64 = .ok (.ireturn, 1) := by decide +kernel
theorem dX11_costWith_0 : decode cX11_costWith 0 = .ok (.aload_n 0, 1) := by decide +kernel
theorem dX11_costWith_1 : decode cX11_costWith 1 = .ok (.getfield 16, 3) := by decide +kernel
theorem dX11_costWith_4 : decode cX11_costWith 4 = .ok (.getfield 68, 3) := by decide +kernel
theorem dX11_costWith_7 : decode cX11_costWith 7 = .ok (.aload_n 0, 1) := by decide +kernel
theorem dX11_costWith_8 : decode cX11_costWith 8 = .ok (.getfield 10, 3) := by decide +kernel
theorem dX11_costWith_11 : decode cX11_costWith 11 = .ok (.getfield 68, 3) := by decide +kernel
theorem dX11_costWith_14 : decode cX11_costWith 14 = .ok (.invokevirtual 221, 3) := by decide +kernel
theorem dX11_costWith_17 : decode cX11_costWith 17 = .ok (.aload_n 0, 1) := by decide +kernel
theorem dX11_costWith_18 : decode cX11_costWith 18 = .ok (.getfield 16, 3) := by decide +kernel
theorem dX11_costWith_21 : decode cX11_costWith 21 = .ok (.getfield 68, 3) := by decide +kernel
theorem dX11_costWith_24 : decode cX11_costWith 24 = .ok (.iload_n 1, 1) := by decide +kernel
theorem dX11_costWith_25 : decode cX11_costWith 25 = .ok (.iload_n 2, 1) := by decide +kernel
theorem dX11_costWith_26 : decode cX11_costWith 26 = .ok (.invokevirtual 76, 3) := by decide +kernel
theorem dX11_costWith_29 : decode cX11_costWith 29 = .ok (.aload_n 0, 1) := by decide +kernel
theorem dX11_costWith_30 : decode cX11_costWith 30 = .ok (.getfield 16, 3) := by decide +kernel
theorem dX11_costWith_33 : decode cX11_costWith 33 = .ok (.aload_n 0, 1) := by decide +kernel
theorem dX11_costWith_34 : decode cX11_costWith 34 = .ok (.getfield 10, 3) := by decide +kernel
theorem dX11_costWith_37 : decode cX11_costWith 37 = .ok (.getfield 47, 3) := by decide +kernel
theorem dX11_costWith_40 : decode cX11_costWith 40 = .ok (.invokevirtual 51, 3) := by decide +kernel
theorem dX11_costWith_43 : decode cX11_costWith 43 = .ok (.iconst 0, 1) := by decide +kernel
theorem dX11_costWith_44 : decode cX11_costWith 44 = .ok (.istore_n 3, 1) := by decide +kernel
theorem dX11_costWith_45 : decode cX11_costWith 45 = .ok (.iload_n 3, 1) := by decide +kernel
theorem dX11_costWith_46 : decode cX11_costWith 46 = .ok (.aload_n 0, 1) := by decide +kernel
theorem dX11_costWith_47 : decode cX11_costWith 47 = .ok (.getfield 22, 3) := by decide +kernel
theorem dX11_costWith_50 : decode cX11_costWith 50 = .ok (.getfield 208, 3) := by decide +kernel
theorem dX11_costWith_53 : decode cX11_costWith 53 = .ok (.if_icmp .ge 53, 3) := by decide +kernel
theorem dX11_costWith_56 : decode cX11_costWith 56 = .ok (.aload_n 0, 1) := by decide +kernel
theorem dX11_costWith_57 : decode cX11_costWith 57 = .ok (.getfield 16, 3) := by decide +kernel
theorem dX11_costWith_60 : decode cX11_costWith 60 = .ok (.aload_n 0, 1) := by decide +kernel
theorem dX11_costWith_61 : decode cX11_costWith 61 = .ok (.getfield 22, 3) := by decide +kernel
theorem dX11_costWith_64 : decode cX11_costWith 64 = .ok (.getfield 225, 3) := by decide +kernel
theorem dX11_costWith_67 : decode cX11_costWith 67 = .ok (.iload_n 3, 1) := by decide +kernel
theorem dX11_costWith_68 : decode cX11_costWith 68 = .ok (.iaload, 1) := by decide +kernel
theorem dX11_costWith_69 : decode cX11_costWith 69 = .ok (.aload_n 0, 1) := by decide +kernel
theorem dX11_costWith_70 : decode cX11_costWith 70 = .ok (.getfield 22, 3) := by decide +kernel
theorem dX11_costWith_73 : decode cX11_costWith 73 = .ok (.getfield 228, 3) := by decide +kernel
theorem dX11_costWith_76 : decode cX11_costWith 76 = .ok (.iload_n 3, 1) := by decide +kernel
theorem dX11_costWith_77 : decode cX11_costWith 77 = .ok (.iaload, 1) := by decide +kernel
theorem dX11_costWith_78 : decode cX11_costWith 78 = .ok (.aload_n 0, 1) := by decide +kernel
theorem dX11_costWith_79 : decode cX11_costWith 79 = .ok (.getfield 22, 3) := by decide +kernel
theorem dX11_costWith_82 : decode cX11_costWith 82 = .ok (.getfield 231, 3) := by decide +kernel
theorem dX11_costWith_85 : decode cX11_costWith 85 = .ok (.iload_n 3, 1) := by decide +kernel
theorem dX11_costWith_86 : decode cX11_costWith 86 = .ok (.iaload, 1) := by decide +kernel
theorem dX11_costWith_87 : decode cX11_costWith 87 = .ok (.aload_n 0, 1) := by decide +kernel
theorem dX11_costWith_88 : decode cX11_costWith 88 = .ok (.getfield 22, 3) := by decide +kernel
theorem dX11_costWith_91 : decode cX11_costWith 91 = .ok (.getfield 234, 3) := by decide +kernel
theorem dX11_costWith_94 : decode cX11_costWith 94 = .ok (.iload_n 3, 1) := by decide +kernel
theorem dX11_costWith_95 : decode cX11_costWith 95 = .ok (.iaload, 1) := by decide +kernel
theorem dX11_costWith_96 : decode cX11_costWith 96 = .ok (.invokevirtual 90, 3) := by decide +kernel
theorem dX11_costWith_99 : decode cX11_costWith 99 = .ok (.pop, 1) := by decide +kernel
theorem dX11_costWith_100 : decode cX11_costWith 100 = .ok (.iinc 3 1, 3) := by decide +kernel
theorem dX11_costWith_103 : decode cX11_costWith 103 = .ok (.goto (-58), 3) := by decide +kernel
theorem dX11_costWith_106 : decode cX11_costWith 106 = .ok (.aload_n 0, 1) := by decide +kernel
theorem dX11_costWith_107 : decode cX11_costWith 107 = .ok (.getfield 16, 3) := by decide +kernel
theorem dX11_costWith_110 : decode cX11_costWith 110 = .ok (.getfield 200, 3) := by decide +kernel
theorem dX11_costWith_113 : decode cX11_costWith 113 = .ok (.invokestatic 204, 3) := by decide +kernel
theorem dX11_costWith_116 : decode cX11_costWith 116 = .ok (.ireturn, 1) := by decide +kernel
theorem dX11_write_0 : decode cX11_write 0 = .ok (.iload_n 1, 1) := by decide +kernel
theorem dX11_write_1 : decode cX11_write 1 = .ok (.bipush 32, 2) := by decide +kernel
theorem dX11_write_3 : decode cX11_write 3 = .ok (.if_icmp .lt 9, 3) := by decide +kernel
theorem dX11_write_6 : decode cX11_write 6 = .ok (.iload_n 1, 1) := by decide +kernel
theorem dX11_write_7 : decode cX11_write 7 = .ok (.bipush 126, 2) := by decide +kernel
theorem dX11_write_9 : decode cX11_write 9 = .ok (.if_icmp .le 6, 3) := by decide +kernel
theorem dX11_write_12 : decode cX11_write 12 = .ok (.bipush (-3), 2) := by decide +kernel
theorem dX11_write_14 : decode cX11_write 14 = .ok (.ireturn, 1) := by decide +kernel
theorem dX11_write_15 : decode cX11_write 15 = .ok (.aload_n 0, 1) := by decide +kernel
theorem dX11_write_16 : decode cX11_write 16 = .ok (.getfield 29, 3) := by decide +kernel
theorem dX11_write_19 : decode cX11_write 19 = .ok (.iload_n 1, 1) := by decide +kernel
theorem dX11_write_20 : decode cX11_write 20 = .ok (.invokevirtual 237, 3) := by decide +kernel
theorem dX11_write_23 : decode cX11_write 23 = .ok (.ifCond .eq 13, 3) := by decide +kernel
theorem dX11_write_26 : decode cX11_write 26 = .ok (.aload_n 0, 1) := by decide +kernel
theorem dX11_write_27 : decode cX11_write 27 = .ok (.getfield 29, 3) := by decide +kernel
theorem dX11_write_30 : decode cX11_write 30 = .ok (.getfield 240, 3) := by decide +kernel
theorem dX11_write_33 : decode cX11_write 33 = .ok (.goto 5, 3) := by decide +kernel
theorem dX11_write_36 : decode cX11_write 36 = .ok (.bipush (-6), 2) := by decide +kernel
theorem dX11_write_38 : decode cX11_write 38 = .ok (.ireturn, 1) := by decide +kernel
theorem dX11_wipe_0 : decode cX11_wipe 0 = .ok (.aload_n 0, 1) := by decide +kernel
theorem dX11_wipe_1 : decode cX11_wipe 1 = .ok (.getfield 29, 3) := by decide +kernel
theorem dX11_wipe_4 : decode cX11_wipe 4 = .ok (.getfield 240, 3) := by decide +kernel
theorem dX11_wipe_7 : decode cX11_wipe 7 = .ok (.istore_n 1, 1) := by decide +kernel
theorem dX11_wipe_8 : decode cX11_wipe 8 = .ok (.aload_n 0, 1) := by decide +kernel
theorem dX11_wipe_9 : decode cX11_wipe 9 = .ok (.getfield 29, 3) := by decide +kernel
theorem dX11_wipe_12 : decode cX11_wipe 12 = .ok (.iconst 0, 1) := by decide +kernel
theorem dX11_wipe_13 : decode cX11_wipe 13 = .ok (.putfield 240, 3) := by decide +kernel
theorem dX11_wipe_16 : decode cX11_wipe 16 = .ok (.iload_n 1, 1) := by decide +kernel
theorem dX11_wipe_17 : decode cX11_wipe 17 = .ok (.ireturn, 1) := by decide +kernel
theorem dX11_fault_0 : decode cX11_fault 0 = .ok (.aload_n 0, 1) := by decide +kernel
theorem dX11_fault_1 : decode cX11_fault 1 = .ok (.getfield 29, 3) := by decide +kernel
theorem dX11_fault_4 : decode cX11_fault 4 = .ok (.invokevirtual 242, 3) := by decide +kernel
theorem dX11_fault_7 : decode cX11_fault 7 = .ok (.ireturn, 1) := by decide +kernel
theorem dX11_run_0 : decode cX11_run 0 = .ok (.aload_n 0, 1) := by decide +kernel
theorem dX11_run_1 : decode cX11_run 1 = .ok (.getfield 29, 3) := by decide +kernel
theorem dX11_run_4 : decode cX11_run 4 = .ok (.invokevirtual 242, 3) := by decide +kernel
theorem dX11_run_7 : decode cX11_run 7 = .ok (.bipush (-8), 2) := by decide +kernel
theorem dX11_run_9 : decode cX11_run 9 = .ok (.if_icmp .eq 6, 3) := by decide +kernel
theorem dX11_run_12 : decode cX11_run 12 = .ok (.bipush (-7), 2) := by decide +kernel
theorem dX11_run_14 : decode cX11_run 14 = .ok (.ireturn, 1) := by decide +kernel
theorem dX11_run_15 : decode cX11_run 15 = .ok (.iconst 0, 1) := by decide +kernel
theorem dX11_run_16 : decode cX11_run 16 = .ok (.istore_n 1, 1) := by decide +kernel
theorem dX11_run_17 : decode cX11_run 17 = .ok (.iconst 0, 1) := by decide +kernel
theorem dX11_run_18 : decode cX11_run 18 = .ok (.istore_n 2, 1) := by decide +kernel
theorem dX11_run_19 : decode cX11_run 19 = .ok (.iconst 0, 1) := by decide +kernel
theorem dX11_run_20 : decode cX11_run 20 = .ok (.istore_n 3, 1) := by decide +kernel
theorem dX11_run_21 : decode cX11_run 21 = .ok (.iload_n 3, 1) := by decide +kernel
theorem dX11_run_22 : decode cX11_run 22 = .ok (.sipush 200, 3) := by decide +kernel
theorem dX11_run_25 : decode cX11_run 25 = .ok (.if_icmp .ge 86, 3) := by decide +kernel
theorem dX11_run_28 : decode cX11_run 28 = .ok (.iload_n 2, 1) := by decide +kernel
theorem dX11_run_29 : decode cX11_run 29 = .ok (.aload_n 0, 1) := by decide +kernel
theorem dX11_run_30 : decode cX11_run 30 = .ok (.getfield 29, 3) := by decide +kernel
theorem dX11_run_33 : decode cX11_run 33 = .ok (.getfield 240, 3) := by decide +kernel
theorem dX11_run_36 : decode cX11_run 36 = .ok (.if_icmp .ge 75, 3) := by decide +kernel
theorem dX11_run_39 : decode cX11_run 39 = .ok (.aload_n 0, 1) := by decide +kernel
theorem dX11_run_40 : decode cX11_run 40 = .ok (.getfield 29, 3) := by decide +kernel
theorem dX11_run_43 : decode cX11_run 43 = .ok (.iload_n 2, 1) := by decide +kernel
theorem dX11_run_44 : decode cX11_run 44 = .ok (.invokevirtual 245, 3) := by decide +kernel
theorem dX11_run_47 : decode cX11_run 47 = .ok (.istore 4, 2) := by decide +kernel
theorem dX11_run_49 : decode cX11_run 49 = .ok (.aload_n 0, 1) := by decide +kernel
theorem dX11_run_50 : decode cX11_run 50 = .ok (.getfield 29, 3) := by decide +kernel
theorem dX11_run_53 : decode cX11_run 53 = .ok (.iload_n 2, 1) := by decide +kernel
theorem dX11_run_54 : decode cX11_run 54 = .ok (.iload 4, 2) := by decide +kernel
theorem dX11_run_56 : decode cX11_run 56 = .ok (.invokevirtual 248, 3) := by decide +kernel
theorem dX11_run_59 : decode cX11_run 59 = .ok (.istore 5, 2) := by decide +kernel
theorem dX11_run_61 : decode cX11_run 61 = .ok (.aload_n 0, 1) := by decide +kernel
theorem dX11_run_62 : decode cX11_run 62 = .ok (.iload 5, 2) := by decide +kernel
theorem dX11_run_64 : decode cX11_run 64 = .ok (.aload_n 0, 1) := by decide +kernel
theorem dX11_run_65 : decode cX11_run 65 = .ok (.getfield 29, 3) := by decide +kernel
theorem dX11_run_68 : decode cX11_run 68 = .ok (.iconst 0, 1) := by decide +kernel
theorem dX11_run_69 : decode cX11_run 69 = .ok (.invokevirtual 251, 3) := by decide +kernel
theorem dX11_run_72 : decode cX11_run 72 = .ok (.aload_n 0, 1) := by decide +kernel
theorem dX11_run_73 : decode cX11_run 73 = .ok (.getfield 29, 3) := by decide +kernel
theorem dX11_run_76 : decode cX11_run 76 = .ok (.iconst 1, 1) := by decide +kernel
theorem dX11_run_77 : decode cX11_run 77 = .ok (.invokevirtual 251, 3) := by decide +kernel
theorem dX11_run_80 : decode cX11_run 80 = .ok (.aload_n 0, 1) := by decide +kernel
theorem dX11_run_81 : decode cX11_run 81 = .ok (.getfield 29, 3) := by decide +kernel
theorem dX11_run_84 : decode cX11_run 84 = .ok (.iconst 2, 1) := by decide +kernel
theorem dX11_run_85 : decode cX11_run 85 = .ok (.invokevirtual 251, 3) := by decide +kernel
theorem dX11_run_88 : decode cX11_run 88 = .ok (.invokevirtual 86, 3) := by decide +kernel
theorem dX11_run_91 : decode cX11_run 91 = .ok (.invokestatic 93, 3) := by decide +kernel
theorem dX11_run_94 : decode cX11_run 94 = .ok (.ifCond .eq 6, 3) := by decide +kernel
theorem dX11_run_97 : decode cX11_run 97 = .ok (.iinc 1 1, 3) := by decide +kernel
theorem dX11_run_100 : decode cX11_run 100 = .ok (.iload 4, 2) := by decide +kernel
theorem dX11_run_102 : decode cX11_run 102 = .ok (.iconst 1, 1) := by decide +kernel
theorem dX11_run_103 : decode cX11_run 103 = .ok (.iadd, 1) := by decide +kernel
theorem dX11_run_104 : decode cX11_run 104 = .ok (.istore_n 2, 1) := by decide +kernel
theorem dX11_run_105 : decode cX11_run 105 = .ok (.iinc 3 1, 3) := by decide +kernel
theorem dX11_run_108 : decode cX11_run 108 = .ok (.goto (-87), 3) := by decide +kernel
theorem dX11_run_111 : decode cX11_run 111 = .ok (.iload_n 1, 1) := by decide +kernel
theorem dX11_run_112 : decode cX11_run 112 = .ok (.ireturn, 1) := by decide +kernel
theorem dX11_save_0 : decode cX11_save 0 = .ok (.iload_n 1, 1) := by decide +kernel
theorem dX11_save_1 : decode cX11_save 1 = .ok (.ifCond .lt 8, 3) := by decide +kernel
theorem dX11_save_4 : decode cX11_save 4 = .ok (.iload_n 1, 1) := by decide +kernel
theorem dX11_save_5 : decode cX11_save 5 = .ok (.iconst 2, 1) := by decide +kernel
theorem dX11_save_6 : decode cX11_save 6 = .ok (.if_icmp .lt 6, 3) := by decide +kernel
theorem dX11_save_9 : decode cX11_save 9 = .ok (.bipush (-3), 2) := by decide +kernel
theorem dX11_save_11 : decode cX11_save 11 = .ok (.ireturn, 1) := by decide +kernel
theorem dX11_save_12 : decode cX11_save 12 = .ok (.aload_n 0, 1) := by decide +kernel
theorem dX11_save_13 : decode cX11_save 13 = .ok (.getfield 35, 3) := by decide +kernel
theorem dX11_save_16 : decode cX11_save 16 = .ok (.iload_n 1, 1) := by decide +kernel
theorem dX11_save_17 : decode cX11_save 17 = .ok (.aaload, 1) := by decide +kernel
theorem dX11_save_18 : decode cX11_save 18 = .ok (.astore_n 2, 1) := by decide +kernel
theorem dX11_save_19 : decode cX11_save 19 = .ok (.aload_n 2, 1) := by decide +kernel
theorem dX11_save_20 : decode cX11_save 20 = .ok (.getfield 254, 3) := by decide +kernel
theorem dX11_save_23 : decode cX11_save 23 = .ok (.aload_n 0, 1) := by decide +kernel
theorem dX11_save_24 : decode cX11_save 24 = .ok (.getfield 10, 3) := by decide +kernel
theorem dX11_save_27 : decode cX11_save 27 = .ok (.invokevirtual 255, 3) := by decide +kernel
theorem dX11_save_30 : decode cX11_save 30 = .ok (.aload_n 2, 1) := by decide +kernel
theorem dX11_save_31 : decode cX11_save 31 = .ok (.getfield 258, 3) := by decide +kernel
theorem dX11_save_34 : decode cX11_save 34 = .ok (.aload_n 0, 1) := by decide +kernel
theorem dX11_save_35 : decode cX11_save 35 = .ok (.getfield 22, 3) := by decide +kernel
theorem dX11_save_38 : decode cX11_save 38 = .ok (.invokevirtual 259, 3) := by decide +kernel
theorem dX11_save_41 : decode cX11_save 41 = .ok (.aload_n 2, 1) := by decide +kernel
theorem dX11_save_42 : decode cX11_save 42 = .ok (.iconst 1, 1) := by decide +kernel
theorem dX11_save_43 : decode cX11_save 43 = .ok (.putfield 262, 3) := by decide +kernel
theorem dX11_save_46 : decode cX11_save 46 = .ok (.aload_n 0, 1) := by decide +kernel
theorem dX11_save_47 : decode cX11_save 47 = .ok (.getfield 10, 3) := by decide +kernel
theorem dX11_save_50 : decode cX11_save 50 = .ok (.getfield 195, 3) := by decide +kernel
theorem dX11_save_53 : decode cX11_save 53 = .ok (.ireturn, 1) := by decide +kernel
theorem dX11_restore_0 : decode cX11_restore 0 = .ok (.iload_n 1, 1) := by decide +kernel
theorem dX11_restore_1 : decode cX11_restore 1 = .ok (.ifCond .lt 8, 3) := by decide +kernel
theorem dX11_restore_4 : decode cX11_restore 4 = .ok (.iload_n 1, 1) := by decide +kernel
theorem dX11_restore_5 : decode cX11_restore 5 = .ok (.iconst 2, 1) := by decide +kernel
theorem dX11_restore_6 : decode cX11_restore 6 = .ok (.if_icmp .lt 6, 3) := by decide +kernel
theorem dX11_restore_9 : decode cX11_restore 9 = .ok (.bipush (-3), 2) := by decide +kernel
theorem dX11_restore_11 : decode cX11_restore 11 = .ok (.ireturn, 1) := by decide +kernel
theorem dX11_restore_12 : decode cX11_restore 12 = .ok (.aload_n 0, 1) := by decide +kernel
theorem dX11_restore_13 : decode cX11_restore 13 = .ok (.getfield 35, 3) := by decide +kernel
theorem dX11_restore_16 : decode cX11_restore 16 = .ok (.iload_n 1, 1) := by decide +kernel
theorem dX11_restore_17 : decode cX11_restore 17 = .ok (.aaload, 1) := by decide +kernel
theorem dX11_restore_18 : decode cX11_restore 18 = .ok (.astore_n 2, 1) := by decide +kernel
theorem dX11_restore_19 : decode cX11_restore 19 = .ok (.aload_n 2, 1) := by decide +kernel
theorem dX11_restore_20 : decode cX11_restore 20 = .ok (.getfield 262, 3) := by decide +kernel
theorem dX11_restore_23 : decode cX11_restore 23 = .ok (.ifCond .ne 6, 3) := by decide +kernel
theorem dX11_restore_26 : decode cX11_restore 26 = .ok (.bipush (-7), 2) := by decide +kernel
theorem dX11_restore_28 : decode cX11_restore 28 = .ok (.ireturn, 1) := by decide +kernel
theorem dX11_restore_29 : decode cX11_restore 29 = .ok (.aload_n 0, 1) := by decide +kernel
theorem dX11_restore_30 : decode cX11_restore 30 = .ok (.getfield 10, 3) := by decide +kernel
theorem dX11_restore_33 : decode cX11_restore 33 = .ok (.aload_n 2, 1) := by decide +kernel
theorem dX11_restore_34 : decode cX11_restore 34 = .ok (.getfield 254, 3) := by decide +kernel
theorem dX11_restore_37 : decode cX11_restore 37 = .ok (.invokevirtual 255, 3) := by decide +kernel
theorem dX11_restore_40 : decode cX11_restore 40 = .ok (.aload_n 0, 1) := by decide +kernel
theorem dX11_restore_41 : decode cX11_restore 41 = .ok (.getfield 22, 3) := by decide +kernel
theorem dX11_restore_44 : decode cX11_restore 44 = .ok (.aload_n 2, 1) := by decide +kernel
theorem dX11_restore_45 : decode cX11_restore 45 = .ok (.getfield 258, 3) := by decide +kernel
theorem dX11_restore_48 : decode cX11_restore 48 = .ok (.invokevirtual 259, 3) := by decide +kernel
theorem dX11_restore_51 : decode cX11_restore 51 = .ok (.aload_n 0, 1) := by decide +kernel
theorem dX11_restore_52 : decode cX11_restore 52 = .ok (.getfield 10, 3) := by decide +kernel
theorem dX11_restore_55 : decode cX11_restore 55 = .ok (.getfield 195, 3) := by decide +kernel
theorem dX11_restore_58 : decode cX11_restore 58 = .ok (.ireturn, 1) := by decide +kernel
end
section
theorem dX12_init_0 : decode cX12_init 0 = .ok (.aload_n 0, 1) := by decide +kernel
theorem dX12_init_1 : decode cX12_init 1 = .ok (.invokespecial 1, 3) := by decide +kernel
theorem dX12_init_4 : decode cX12_init 4 = .ok (.aload_n 0, 1) := by decide +kernel
theorem dX12_init_5 : decode cX12_init 5 = .ok (.sipush 482, 3) := by decide +kernel
theorem dX12_init_8 : decode cX12_init 8 = .ok (.newarray .int, 2) := by decide +kernel
theorem dX12_init_10 : decode cX12_init 10 = .ok (.putfield 7, 3) := by decide +kernel
theorem dX12_init_13 : decode cX12_init 13 = .ok (.aload_n 0, 1) := by decide +kernel
theorem dX12_init_14 : decode cX12_init 14 = .ok (.sipush 482, 3) := by decide +kernel
theorem dX12_init_17 : decode cX12_init 17 = .ok (.newarray .int, 2) := by decide +kernel
theorem dX12_init_19 : decode cX12_init 19 = .ok (.putfield 13, 3) := by decide +kernel
theorem dX12_init_22 : decode cX12_init 22 = .ok (.aload_n 0, 1) := by decide +kernel
theorem dX12_init_23 : decode cX12_init 23 = .ok (.sipush 482, 3) := by decide +kernel
theorem dX12_init_26 : decode cX12_init 26 = .ok (.newarray .int, 2) := by decide +kernel
theorem dX12_init_28 : decode cX12_init 28 = .ok (.putfield 16, 3) := by decide +kernel
theorem dX12_init_31 : decode cX12_init 31 = .ok (.aload_n 0, 1) := by decide +kernel
theorem dX12_init_32 : decode cX12_init 32 = .ok (.sipush 964, 3) := by decide +kernel
theorem dX12_init_35 : decode cX12_init 35 = .ok (.newarray .int, 2) := by decide +kernel
theorem dX12_init_37 : decode cX12_init 37 = .ok (.putfield 19, 3) := by decide +kernel
theorem dX12_init_40 : decode cX12_init 40 = .ok (.aload_n 0, 1) := by decide +kernel
theorem dX12_init_41 : decode cX12_init 41 = .ok (.sipush 200, 3) := by decide +kernel
theorem dX12_init_44 : decode cX12_init 44 = .ok (.newarray .int, 2) := by decide +kernel
theorem dX12_init_46 : decode cX12_init 46 = .ok (.putfield 22, 3) := by decide +kernel
theorem dX12_init_49 : decode cX12_init 49 = .ok (.aload_n 0, 1) := by decide +kernel
theorem dX12_init_50 : decode cX12_init 50 = .ok (.sipush 200, 3) := by decide +kernel
theorem dX12_init_53 : decode cX12_init 53 = .ok (.newarray .int, 2) := by decide +kernel
theorem dX12_init_55 : decode cX12_init 55 = .ok (.putfield 25, 3) := by decide +kernel
theorem dX12_init_58 : decode cX12_init 58 = .ok (.aload_n 0, 1) := by decide +kernel
theorem dX12_init_59 : decode cX12_init 59 = .ok (.sipush 400, 3) := by decide +kernel
theorem dX12_init_62 : decode cX12_init 62 = .ok (.newarray .int, 2) := by decide +kernel
theorem dX12_init_64 : decode cX12_init 64 = .ok (.putfield 28, 3) := by decide +kernel
theorem dX12_init_67 : decode cX12_init 67 = .ok (.aload_n 0, 1) := by decide +kernel
theorem dX12_init_68 : decode cX12_init 68 = .ok (.getfield 7, 3) := by decide +kernel
theorem dX12_init_71 : decode cX12_init 71 = .ok (.iconst 0, 1) := by decide +kernel
theorem dX12_init_72 : decode cX12_init 72 = .ok (.iconst 3, 1) := by decide +kernel
theorem dX12_init_73 : decode cX12_init 73 = .ok (.iastore, 1) := by decide +kernel
theorem dX12_init_74 : decode cX12_init 74 = .ok (.aload_n 0, 1) := by decide +kernel
theorem dX12_init_75 : decode cX12_init 75 = .ok (.getfield 7, 3) := by decide +kernel
theorem dX12_init_78 : decode cX12_init 78 = .ok (.iconst 1, 1) := by decide +kernel
theorem dX12_init_79 : decode cX12_init 79 = .ok (.iconst 1, 1) := by decide +kernel
theorem dX12_init_80 : decode cX12_init 80 = .ok (.iastore, 1) := by decide +kernel
theorem dX12_init_81 : decode cX12_init 81 = .ok (.aload_n 0, 1) := by decide +kernel
theorem dX12_init_82 : decode cX12_init 82 = .ok (.getfield 7, 3) := by decide +kernel
theorem dX12_init_85 : decode cX12_init 85 = .ok (.iconst 3, 1) := by decide +kernel
theorem dX12_init_86 : decode cX12_init 86 = .ok (.iconst 4, 1) := by decide +kernel
theorem dX12_init_87 : decode cX12_init 87 = .ok (.iastore, 1) := by decide +kernel
theorem dX12_init_88 : decode cX12_init 88 = .ok (.aload_n 0, 1) := by decide +kernel
theorem dX12_init_89 : decode cX12_init 89 = .ok (.getfield 7, 3) := by decide +kernel
theorem dX12_init_92 : decode cX12_init 92 = .ok (.iconst 4, 1) := by decide +kernel
theorem dX12_init_93 : decode cX12_init 93 = .ok (.bipush 8, 2) := by decide +kernel
theorem dX12_init_95 : decode cX12_init 95 = .ok (.iastore, 1) := by decide +kernel
theorem dX12_init_96 : decode cX12_init 96 = .ok (.aload_n 0, 1) := by decide +kernel
theorem dX12_init_97 : decode cX12_init 97 = .ok (.getfield 7, 3) := by decide +kernel
theorem dX12_init_100 : decode cX12_init 100 = .ok (.iconst 5, 1) := by decide +kernel
theorem dX12_init_101 : decode cX12_init 101 = .ok (.iconst 3, 1) := by decide +kernel
theorem dX12_init_102 : decode cX12_init 102 = .ok (.iastore, 1) := by decide +kernel
theorem dX12_init_103 : decode cX12_init 103 = .ok (.aload_n 0, 1) := by decide +kernel
theorem dX12_init_104 : decode cX12_init 104 = .ok (.getfield 7, 3) := by decide +kernel
theorem dX12_init_107 : decode cX12_init 107 = .ok (.bipush 6, 2) := by decide +kernel
theorem dX12_init_109 : decode cX12_init 109 = .ok (.iconst 5, 1) := by decide +kernel
theorem dX12_init_110 : decode cX12_init 110 = .ok (.iastore, 1) := by decide +kernel
theorem dX12_init_111 : decode cX12_init 111 = .ok (.aload_n 0, 1) := by decide +kernel
theorem dX12_init_112 : decode cX12_init 112 = .ok (.getfield 7, 3) := by decide +kernel
theorem dX12_init_115 : decode cX12_init 115 = .ok (.bipush 7, 2) := by decide +kernel
theorem dX12_init_117 : decode cX12_init 117 = .ok (.iconst 4, 1) := by decide +kernel
theorem dX12_init_118 : decode cX12_init 118 = .ok (.iastore, 1) := by decide +kernel
theorem dX12_init_119 : decode cX12_init 119 = .ok (.aload_n 0, 1) := by decide +kernel
theorem dX12_init_120 : decode cX12_init 120 = .ok (.iconst 3, 1) := by decide +kernel
theorem dX12_init_121 : decode cX12_init 121 = .ok (.invokevirtual 31, 3) := by decide +kernel
theorem dX12_init_124 : decode cX12_init 124 = .ok (.return_, 1) := by decide +kernel
theorem dX12_isIn_0 : decode cX12_isIn 0 = .ok (.iload_n 0, 1) := by decide +kernel
theorem dX12_isIn_1 : decode cX12_isIn 1 = .ok (.iload_n 1, 1) := by decide +kernel
theorem dX12_isIn_2 : decode cX12_isIn 2 = .ok (.if_icmp .lt 12, 3) := by decide +kernel
theorem dX12_isIn_5 : decode cX12_isIn 5 = .ok (.iload_n 0, 1) := by decide +kernel
theorem dX12_isIn_6 : decode cX12_isIn 6 = .ok (.iload_n 2, 1) := by decide +kernel
theorem dX12_isIn_7 : decode cX12_isIn 7 = .ok (.if_icmp .gt 7, 3) := by decide +kernel
theorem dX12_isIn_10 : decode cX12_isIn 10 = .ok (.iconst 1, 1) := by decide +kernel
theorem dX12_isIn_11 : decode cX12_isIn 11 = .ok (.goto 4, 3) := by decide +kernel
theorem dX12_isIn_14 : decode cX12_isIn 14 = .ok (.iconst 0, 1) := by decide +kernel
theorem dX12_isIn_15 : decode cX12_isIn 15 = .ok (.ireturn, 1) := by decide +kernel
theorem dX12_begin_0 : decode cX12_begin 0 = .ok (.bipush 9, 2) := by decide +kernel
theorem dX12_begin_2 : decode cX12_begin 2 = .ok (.istore_n 2, 1) := by decide +kernel
theorem dX12_begin_3 : decode cX12_begin 3 = .ok (.iload_n 2, 1) := by decide +kernel
theorem dX12_begin_4 : decode cX12_begin 4 = .ok (.sipush 482, 3) := by decide +kernel
theorem dX12_begin_7 : decode cX12_begin 7 = .ok (.if_icmp .ge 16, 3) := by decide +kernel
theorem dX12_begin_10 : decode cX12_begin 10 = .ok (.aload_n 0, 1) := by decide +kernel
theorem dX12_begin_11 : decode cX12_begin 11 = .ok (.getfield 7, 3) := by decide +kernel
theorem dX12_begin_14 : decode cX12_begin 14 = .ok (.iload_n 2, 1) := by decide +kernel
theorem dX12_begin_15 : decode cX12_begin 15 = .ok (.iconst 0, 1) := by decide +kernel
theorem dX12_begin_16 : decode cX12_begin 16 = .ok (.iastore, 1) := by decide +kernel
theorem dX12_begin_17 : decode cX12_begin 17 = .ok (.iinc 2 1, 3) := by decide +kernel
theorem dX12_begin_20 : decode cX12_begin 20 = .ok (.goto (-17), 3) := by decide +kernel
theorem dX12_begin_23 : decode cX12_begin 23 = .ok (.aload_n 0, 1) := by decide +kernel
theorem dX12_begin_24 : decode cX12_begin 24 = .ok (.getfield 7, 3) := by decide +kernel
theorem dX12_begin_27 : decode cX12_begin 27 = .ok (.iconst 0, 1) := by decide +kernel
theorem dX12_begin_28 : decode cX12_begin 28 = .ok (.iload_n 1, 1) := by decide +kernel
theorem dX12_begin_29 : decode cX12_begin 29 = .ok (.iastore, 1) := by decide +kernel
theorem dX12_begin_30 : decode cX12_begin 30 = .ok (.iconst 0, 1) := by decide +kernel
theorem dX12_begin_31 : decode cX12_begin 31 = .ok (.istore_n 2, 1) := by decide +kernel
theorem dX12_begin_32 : decode cX12_begin 32 = .ok (.iload_n 2, 1) := by decide +kernel
theorem dX12_begin_33 : decode cX12_begin 33 = .ok (.bipush 6, 2) := by decide +kernel
theorem dX12_begin_35 : decode cX12_begin 35 = .ok (.if_icmp .ge 31, 3) := by decide +kernel
theorem dX12_begin_38 : decode cX12_begin 38 = .ok (.aload_n 0, 1) := by decide +kernel
theorem dX12_begin_39 : decode cX12_begin 39 = .ok (.getfield 7, 3) := by decide +kernel
theorem dX12_begin_42 : decode cX12_begin 42 = .ok (.bipush 22, 2) := by decide +kernel
theorem dX12_begin_44 : decode cX12_begin 44 = .ok (.iload_n 2, 1) := by decide +kernel
theorem dX12_begin_45 : decode cX12_begin 45 = .ok (.iadd, 1) := by decide +kernel
theorem dX12_begin_46 : decode cX12_begin 46 = .ok (.bipush (-8), 2) := by decide +kernel
theorem dX12_begin_48 : decode cX12_begin 48 = .ok (.iastore, 1) := by decide +kernel
theorem dX12_begin_49 : decode cX12_begin 49 = .ok (.aload_n 0, 1) := by decide +kernel
theorem dX12_begin_50 : decode cX12_begin 50 = .ok (.getfield 7, 3) := by decide +kernel
theorem dX12_begin_53 : decode cX12_begin 53 = .ok (.bipush 28, 2) := by decide +kernel
theorem dX12_begin_55 : decode cX12_begin 55 = .ok (.iload_n 2, 1) := by decide +kernel
theorem dX12_begin_56 : decode cX12_begin 56 = .ok (.iadd, 1) := by decide +kernel
theorem dX12_begin_57 : decode cX12_begin 57 = .ok (.bipush (-8), 2) := by decide +kernel
theorem dX12_begin_59 : decode cX12_begin 59 = .ok (.iastore, 1) := by decide +kernel
theorem dX12_begin_60 : decode cX12_begin 60 = .ok (.iinc 2 1, 3) := by decide +kernel
theorem dX12_begin_63 : decode cX12_begin 63 = .ok (.goto (-31), 3) := by decide +kernel
theorem dX12_begin_66 : decode cX12_begin 66 = .ok (.iconst 0, 1) := by decide +kernel
theorem dX12_begin_67 : decode cX12_begin 67 = .ok (.istore_n 2, 1) := by decide +kernel
theorem dX12_begin_68 : decode cX12_begin 68 = .ok (.iload_n 2, 1) := by decide +kernel
theorem dX12_begin_69 : decode cX12_begin 69 = .ok (.bipush 8, 2) := by decide +kernel
theorem dX12_begin_71 : decode cX12_begin 71 = .ok (.if_icmp .ge 66, 3) := by decide +kernel
theorem dX12_begin_74 : decode cX12_begin 74 = .ok (.aload_n 0, 1) := by decide +kernel
theorem dX12_begin_75 : decode cX12_begin 75 = .ok (.getfield 7, 3) := by decide +kernel
theorem dX12_begin_78 : decode cX12_begin 78 = .ok (.bipush 46, 2) := by decide +kernel
theorem dX12_begin_80 : decode cX12_begin 80 = .ok (.iload_n 2, 1) := by decide +kernel
theorem dX12_begin_81 : decode cX12_begin 81 = .ok (.iadd, 1) := by decide +kernel
theorem dX12_begin_82 : decode cX12_begin 82 = .ok (.aload_n 0, 1) := by decide +kernel
theorem dX12_begin_83 : decode cX12_begin 83 = .ok (.getfield 7, 3) := by decide +kernel
theorem dX12_begin_86 : decode cX12_begin 86 = .ok (.iconst 1, 1) := by decide +kernel
theorem dX12_begin_87 : decode cX12_begin 87 = .ok (.iaload, 1) := by decide +kernel
theorem dX12_begin_88 : decode cX12_begin 88 = .ok (.iconst 1, 1) := by decide +kernel
theorem dX12_begin_89 : decode cX12_begin 89 = .ok (.if_icmp .ne 7, 3) := by decide +kernel
theorem dX12_begin_92 : decode cX12_begin 92 = .ok (.iconst 1, 1) := by decide +kernel
theorem dX12_begin_93 : decode cX12_begin 93 = .ok (.goto 4, 3) := by decide +kernel
theorem dX12_begin_96 : decode cX12_begin 96 = .ok (.iconst 0, 1) := by decide +kernel
theorem dX12_begin_97 : decode cX12_begin 97 = .ok (.iastore, 1) := by decide +kernel
theorem dX12_begin_98 : decode cX12_begin 98 = .ok (.aload_n 0, 1) := by decide +kernel
theorem dX12_begin_99 : decode cX12_begin 99 = .ok (.getfield 7, 3) := by decide +kernel
theorem dX12_begin_102 : decode cX12_begin 102 = .ok (.bipush 54, 2) := by decide +kernel
theorem dX12_begin_104 : decode cX12_begin 104 = .ok (.iload_n 2, 1) := by decide +kernel
theorem dX12_begin_105 : decode cX12_begin 105 = .ok (.iadd, 1) := by decide +kernel
theorem dX12_begin_106 : decode cX12_begin 106 = .ok (.bipush (-8), 2) := by decide +kernel
theorem dX12_begin_108 : decode cX12_begin 108 = .ok (.iastore, 1) := by decide +kernel
theorem dX12_begin_109 : decode cX12_begin 109 = .ok (.aload_n 0, 1) := by decide +kernel
theorem dX12_begin_110 : decode cX12_begin 110 = .ok (.getfield 7, 3) := by decide +kernel
theorem dX12_begin_113 : decode cX12_begin 113 = .ok (.bipush 70, 2) := by decide +kernel
theorem dX12_begin_115 : decode cX12_begin 115 = .ok (.iload_n 2, 1) := by decide +kernel
theorem dX12_begin_116 : decode cX12_begin 116 = .ok (.iadd, 1) := by decide +kernel
theorem dX12_begin_117 : decode cX12_begin 117 = .ok (.bipush (-8), 2) := by decide +kernel
theorem dX12_begin_119 : decode cX12_begin 119 = .ok (.iastore, 1) := by decide +kernel
theorem dX12_begin_120 : decode cX12_begin 120 = .ok (.aload_n 0, 1) := by decide +kernel
theorem dX12_begin_121 : decode cX12_begin 121 = .ok (.getfield 7, 3) := by decide +kernel
theorem dX12_begin_124 : decode cX12_begin 124 = .ok (.bipush 94, 2) := by decide +kernel
theorem dX12_begin_126 : decode cX12_begin 126 = .ok (.iload_n 2, 1) := by decide +kernel
theorem dX12_begin_127 : decode cX12_begin 127 = .ok (.iadd, 1) := by decide +kernel
theorem dX12_begin_128 : decode cX12_begin 128 = .ok (.bipush (-8), 2) := by decide +kernel
theorem dX12_begin_130 : decode cX12_begin 130 = .ok (.iastore, 1) := by decide +kernel
theorem dX12_begin_131 : decode cX12_begin 131 = .ok (.iinc 2 1, 3) := by decide +kernel
theorem dX12_begin_134 : decode cX12_begin 134 = .ok (.goto (-66), 3) := by decide +kernel
theorem dX12_begin_137 : decode cX12_begin 137 = .ok (.iconst 0, 1) := by decide +kernel
theorem dX12_begin_138 : decode cX12_begin 138 = .ok (.istore_n 2, 1) := by decide +kernel
theorem dX12_begin_139 : decode cX12_begin 139 = .ok (.iload_n 2, 1) := by decide +kernel
theorem dX12_begin_140 : decode cX12_begin 140 = .ok (.iconst 3, 1) := by decide +kernel
theorem dX12_begin_141 : decode cX12_begin 141 = .ok (.if_icmp .ge 20, 3) := by decide +kernel
theorem dX12_begin_144 : decode cX12_begin 144 = .ok (.aload_n 0, 1) := by decide +kernel
theorem dX12_begin_145 : decode cX12_begin 145 = .ok (.getfield 7, 3) := by decide +kernel
theorem dX12_begin_148 : decode cX12_begin 148 = .ok (.sipush 228, 3) := by decide +kernel
theorem dX12_begin_151 : decode cX12_begin 151 = .ok (.iload_n 2, 1) := by decide +kernel
theorem dX12_begin_152 : decode cX12_begin 152 = .ok (.iadd, 1) := by decide +kernel
theorem dX12_begin_153 : decode cX12_begin 153 = .ok (.iconst 1, 1) := by decide +kernel
theorem dX12_begin_154 : decode cX12_begin 154 = .ok (.iastore, 1) := by decide +kernel
theorem dX12_begin_155 : decode cX12_begin 155 = .ok (.iinc 2 1, 3) := by decide +kernel
theorem dX12_begin_158 : decode cX12_begin 158 = .ok (.goto (-19), 3) := by decide +kernel
theorem dX12_begin_161 : decode cX12_begin 161 = .ok (.return_, 1) := by decide +kernel
theorem dX12_isThread_0 : decode cX12_isThread 0 = .ok (.iload_n 1, 1) := by decide +kernel
theorem dX12_isThread_1 : decode cX12_isThread 1 = .ok (.iconst 0, 1) := by decide +kernel
theorem dX12_isThread_2 : decode cX12_isThread 2 = .ok (.aload_n 0, 1) := by decide +kernel
theorem dX12_isThread_3 : decode cX12_isThread 3 = .ok (.getfield 7, 3) := by decide +kernel
theorem dX12_isThread_6 : decode cX12_isThread 6 = .ok (.iconst 0, 1) := by decide +kernel
theorem dX12_isThread_7 : decode cX12_isThread 7 = .ok (.iaload, 1) := by decide +kernel
theorem dX12_isThread_8 : decode cX12_isThread 8 = .ok (.iconst 1, 1) := by decide +kernel
theorem dX12_isThread_9 : decode cX12_isThread 9 = .ok (.isub, 1) := by decide +kernel
theorem dX12_isThread_10 : decode cX12_isThread 10 = .ok (.invokestatic 35, 3) := by decide +kernel
theorem dX12_isThread_13 : decode cX12_isThread 13 = .ok (.ireturn, 1) := by decide +kernel
theorem dX12_isObject_0 : decode cX12_isObject 0 = .ok (.iload_n 0, 1) := by decide +kernel
theorem dX12_isObject_1 : decode cX12_isObject 1 = .ok (.iconst 0, 1) := by decide +kernel
theorem dX12_isObject_2 : decode cX12_isObject 2 = .ok (.bipush 7, 2) := by decide +kernel
theorem dX12_isObject_4 : decode cX12_isObject 4 = .ok (.invokestatic 35, 3) := by decide +kernel
theorem dX12_isObject_7 : decode cX12_isObject 7 = .ok (.ireturn, 1) := by decide +kernel
theorem dX12_reset_0 : decode cX12_reset 0 = .ok (.iload_n 1, 1) := by decide +kernel
theorem dX12_reset_1 : decode cX12_reset 1 = .ok (.iconst 2, 1) := by decide +kernel
theorem dX12_reset_2 : decode cX12_reset 2 = .ok (.bipush 6, 2) := by decide +kernel
theorem dX12_reset_4 : decode cX12_reset 4 = .ok (.invokestatic 35, 3) := by decide +kernel
theorem dX12_reset_7 : decode cX12_reset 7 = .ok (.ifCond .ne 6, 3) := by decide +kernel
theorem dX12_reset_10 : decode cX12_reset 10 = .ok (.bipush (-3), 2) := by decide +kernel
theorem dX12_reset_12 : decode cX12_reset 12 = .ok (.ireturn, 1) := by decide +kernel
theorem dX12_reset_13 : decode cX12_reset 13 = .ok (.aload_n 0, 1) := by decide +kernel
theorem dX12_reset_14 : decode cX12_reset 14 = .ok (.getfield 7, 3) := by decide +kernel
theorem dX12_reset_17 : decode cX12_reset 17 = .ok (.iconst 0, 1) := by decide +kernel
theorem dX12_reset_18 : decode cX12_reset 18 = .ok (.iaload, 1) := by decide +kernel
theorem dX12_reset_19 : decode cX12_reset 19 = .ok (.istore_n 2, 1) := by decide +kernel
theorem dX12_reset_20 : decode cX12_reset 20 = .ok (.aload_n 0, 1) := by decide +kernel
theorem dX12_reset_21 : decode cX12_reset 21 = .ok (.iload_n 1, 1) := by decide +kernel
theorem dX12_reset_22 : decode cX12_reset 22 = .ok (.invokevirtual 31, 3) := by decide +kernel
theorem dX12_reset_25 : decode cX12_reset 25 = .ok (.iload_n 2, 1) := by decide +kernel
theorem dX12_reset_26 : decode cX12_reset 26 = .ok (.ireturn, 1) := by decide +kernel
theorem dX12_least_0 : decode cX12_least 0 = .ok (.iload_n 0, 1) := by decide +kernel
theorem dX12_least_1 : decode cX12_least 1 = .ok (.ifCond .eq 14, 3) := by decide +kernel
theorem dX12_least_4 : decode cX12_least 4 = .ok (.iload_n 0, 1) := by decide +kernel
theorem dX12_least_5 : decode cX12_least 5 = .ok (.iconst 1, 1) := by decide +kernel
theorem dX12_least_6 : decode cX12_least 6 = .ok (.if_icmp .eq 9, 3) := by decide +kernel
theorem dX12_least_9 : decode cX12_least 9 = .ok (.iload_n 0, 1) := by decide +kernel
theorem dX12_least_10 : decode cX12_least 10 = .ok (.bipush 7, 2) := by decide +kernel
theorem dX12_least_12 : decode cX12_least 12 = .ok (.if_icmp .ne 7, 3) := by decide +kernel
theorem dX12_least_15 : decode cX12_least 15 = .ok (.iconst 0, 1) := by decide +kernel
theorem dX12_least_16 : decode cX12_least 16 = .ok (.goto 4, 3) := by decide +kernel
theorem dX12_least_19 : decode cX12_least 19 = .ok (.iconst 1, 1) := by decide +kernel
theorem dX12_least_20 : decode cX12_least 20 = .ok (.ireturn, 1) := by decide +kernel
theorem dX12_most_0 : decode cX12_most 0 = .ok (.iload_n 0, 1) := by decide +kernel
theorem dX12_most_1 : decode cX12_most 1 = .ok (.tableswitch 44 2 6 #[41, 41, 35, 41, 38], 35) := by decide +kernel
theorem dX12_most_36 : decode cX12_most 36 = .ok (.bipush 15, 2) := by decide +kernel
theorem dX12_most_38 : decode cX12_most 38 = .ok (.ireturn, 1) := by decide +kernel
theorem dX12_most_39 : decode cX12_most 39 = .ok (.bipush 8, 2) := by decide +kernel
theorem dX12_most_41 : decode cX12_most 41 = .ok (.ireturn, 1) := by decide +kernel
theorem dX12_most_42 : decode cX12_most 42 = .ok (.bipush 20, 2) := by decide +kernel
theorem dX12_most_44 : decode cX12_most 44 = .ok (.ireturn, 1) := by decide +kernel
theorem dX12_most_45 : decode cX12_most 45 = .ok (.iconst 1, 1) := by decide +kernel
theorem dX12_most_46 : decode cX12_most 46 = .ok (.ireturn, 1) := by decide +kernel
theorem dX12_isValue_0 : decode cX12_isValue 0 = .ok (.iload_n 0, 1) := by decide +kernel
theorem dX12_isValue_1 : decode cX12_isValue 1 = .ok (.iconst 0, 1) := by decide +kernel
theorem dX12_isValue_2 : decode cX12_isValue 2 = .ok (.bipush 7, 2) := by decide +kernel
theorem dX12_isValue_4 : decode cX12_isValue 4 = .ok (.invokestatic 35, 3) := by decide +kernel
theorem dX12_isValue_7 : decode cX12_isValue 7 = .ok (.ifCond .eq 22, 3) := by decide +kernel
theorem dX12_isValue_10 : decode cX12_isValue 10 = .ok (.iload_n 1, 1) := by decide +kernel
theorem dX12_isValue_11 : decode cX12_isValue 11 = .ok (.iload_n 0, 1) := by decide +kernel
theorem dX12_isValue_12 : decode cX12_isValue 12 = .ok (.invokestatic 39, 3) := by decide +kernel
theorem dX12_isValue_15 : decode cX12_isValue 15 = .ok (.iload_n 0, 1) := by decide +kernel
theorem dX12_isValue_16 : decode cX12_isValue 16 = .ok (.invokestatic 43, 3) := by decide +kernel
theorem dX12_isValue_19 : decode cX12_isValue 19 = .ok (.invokestatic 35, 3) := by decide +kernel
theorem dX12_isValue_22 : decode cX12_isValue 22 = .ok (.ifCond .eq 7, 3) := by decide +kernel
theorem dX12_isValue_25 : decode cX12_isValue 25 = .ok (.iconst 1, 1) := by decide +kernel
theorem dX12_isValue_26 : decode cX12_isValue 26 = .ok (.goto 4, 3) := by decide +kernel
theorem dX12_isValue_29 : decode cX12_isValue 29 = .ok (.iconst 0, 1) := by decide +kernel
theorem dX12_isValue_30 : decode cX12_isValue 30 = .ok (.ireturn, 1) := by decide +kernel
theorem dX12_set_0 : decode cX12_set 0 = .ok (.iload_n 1, 1) := by decide +kernel
theorem dX12_set_1 : decode cX12_set 1 = .ok (.iload_n 2, 1) := by decide +kernel
theorem dX12_set_2 : decode cX12_set 2 = .ok (.invokestatic 46, 3) := by decide +kernel
theorem dX12_set_5 : decode cX12_set 5 = .ok (.ifCond .ne 6, 3) := by decide +kernel
theorem dX12_set_8 : decode cX12_set 8 = .ok (.bipush (-3), 2) := by decide +kernel
theorem dX12_set_10 : decode cX12_set 10 = .ok (.ireturn, 1) := by decide +kernel
theorem dX12_set_11 : decode cX12_set 11 = .ok (.iload_n 1, 1) := by decide +kernel
theorem dX12_set_12 : decode cX12_set 12 = .ok (.bipush 6, 2) := by decide +kernel
theorem dX12_set_14 : decode cX12_set 14 = .ok (.if_icmp .ne 14, 3) := by decide +kernel
theorem dX12_set_17 : decode cX12_set 17 = .ok (.iload_n 2, 1) := by decide +kernel
theorem dX12_set_18 : decode cX12_set 18 = .ok (.aload_n 0, 1) := by decide +kernel
theorem dX12_set_19 : decode cX12_set 19 = .ok (.invokevirtual 50, 3) := by decide +kernel
theorem dX12_set_22 : decode cX12_set 22 = .ok (.if_icmp .ge 6, 3) := by decide +kernel
theorem dX12_set_25 : decode cX12_set 25 = .ok (.bipush (-7), 2) := by decide +kernel
theorem dX12_set_27 : decode cX12_set 27 = .ok (.ireturn, 1) := by decide +kernel
theorem dX12_set_28 : decode cX12_set 28 = .ok (.aload_n 0, 1) := by decide +kernel
theorem dX12_set_29 : decode cX12_set 29 = .ok (.getfield 7, 3) := by decide +kernel
theorem dX12_set_32 : decode cX12_set 32 = .ok (.iconst 1, 1) := by decide +kernel
theorem dX12_set_33 : decode cX12_set 33 = .ok (.iload_n 1, 1) := by decide +kernel
theorem dX12_set_34 : decode cX12_set 34 = .ok (.iadd, 1) := by decide +kernel
theorem dX12_set_35 : decode cX12_set 35 = .ok (.iaload, 1) := by decide +kernel
theorem dX12_set_36 : decode cX12_set 36 = .ok (.istore_n 3, 1) := by decide +kernel
theorem dX12_set_37 : decode cX12_set 37 = .ok (.aload_n 0, 1) := by decide +kernel
theorem dX12_set_38 : decode cX12_set 38 = .ok (.getfield 7, 3) := by decide +kernel
theorem dX12_set_41 : decode cX12_set 41 = .ok (.iconst 1, 1) := by decide +kernel
theorem dX12_set_42 : decode cX12_set 42 = .ok (.iload_n 1, 1) := by decide +kernel
theorem dX12_set_43 : decode cX12_set 43 = .ok (.iadd, 1) := by decide +kernel
theorem dX12_set_44 : decode cX12_set 44 = .ok (.iload_n 2, 1) := by decide +kernel
theorem dX12_set_45 : decode cX12_set 45 = .ok (.iastore, 1) := by decide +kernel
theorem dX12_set_46 : decode cX12_set 46 = .ok (.iload_n 3, 1) := by decide +kernel
theorem dX12_set_47 : decode cX12_set 47 = .ok (.ireturn, 1) := by decide +kernel
theorem dX12_setting_0 : decode cX12_setting 0 = .ok (.iload_n 1, 1) := by decide +kernel
theorem dX12_setting_1 : decode cX12_setting 1 = .ok (.iconst 0, 1) := by decide +kernel
theorem dX12_setting_2 : decode cX12_setting 2 = .ok (.bipush 7, 2) := by decide +kernel
theorem dX12_setting_4 : decode cX12_setting 4 = .ok (.invokestatic 35, 3) := by decide +kernel
theorem dX12_setting_7 : decode cX12_setting 7 = .ok (.ifCond .eq 14, 3) := by decide +kernel
theorem dX12_setting_10 : decode cX12_setting 10 = .ok (.aload_n 0, 1) := by decide +kernel
theorem dX12_setting_11 : decode cX12_setting 11 = .ok (.getfield 7, 3) := by decide +kernel
theorem dX12_setting_14 : decode cX12_setting 14 = .ok (.iconst 1, 1) := by decide +kernel
theorem dX12_setting_15 : decode cX12_setting 15 = .ok (.iload_n 1, 1) := by decide +kernel
theorem dX12_setting_16 : decode cX12_setting 16 = .ok (.iadd, 1) := by decide +kernel
theorem dX12_setting_17 : decode cX12_setting 17 = .ok (.iaload, 1) := by decide +kernel
theorem dX12_setting_18 : decode cX12_setting 18 = .ok (.goto 5, 3) := by decide +kernel
theorem dX12_setting_21 : decode cX12_setting 21 = .ok (.bipush (-3), 2) := by decide +kernel
theorem dX12_setting_23 : decode cX12_setting 23 = .ok (.ireturn, 1) := by decide +kernel
theorem dX12_monitors_0 : decode cX12_monitors 0 = .ok (.iconst 0, 1) := by decide +kernel
theorem dX12_monitors_1 : decode cX12_monitors 1 = .ok (.istore_n 1, 1) := by decide +kernel
theorem dX12_monitors_2 : decode cX12_monitors 2 = .ok (.iconst 0, 1) := by decide +kernel
theorem dX12_monitors_3 : decode cX12_monitors 3 = .ok (.istore_n 2, 1) := by decide +kernel
theorem dX12_monitors_4 : decode cX12_monitors 4 = .ok (.iload_n 2, 1) := by decide +kernel
theorem dX12_monitors_5 : decode cX12_monitors 5 = .ok (.bipush 8, 2) := by decide +kernel
theorem dX12_monitors_7 : decode cX12_monitors 7 = .ok (.if_icmp .ge 30, 3) := by decide +kernel
theorem dX12_monitors_10 : decode cX12_monitors 10 = .ok (.iload_n 1, 1) := by decide +kernel
theorem dX12_monitors_11 : decode cX12_monitors 11 = .ok (.aload_n 0, 1) := by decide +kernel
theorem dX12_monitors_12 : decode cX12_monitors 12 = .ok (.getfield 7, 3) := by decide +kernel
theorem dX12_monitors_15 : decode cX12_monitors 15 = .ok (.bipush 46, 2) := by decide +kernel
theorem dX12_monitors_17 : decode cX12_monitors 17 = .ok (.iload_n 2, 1) := by decide +kernel
theorem dX12_monitors_18 : decode cX12_monitors 18 = .ok (.iadd, 1) := by decide +kernel
theorem dX12_monitors_19 : decode cX12_monitors 19 = .ok (.iaload, 1) := by decide +kernel
theorem dX12_monitors_20 : decode cX12_monitors 20 = .ok (.iconst 4, 1) := by decide +kernel
theorem dX12_monitors_21 : decode cX12_monitors 21 = .ok (.if_icmp .ne 7, 3) := by decide +kernel
theorem dX12_monitors_24 : decode cX12_monitors 24 = .ok (.iconst 1, 1) := by decide +kernel
theorem dX12_monitors_25 : decode cX12_monitors 25 = .ok (.goto 4, 3) := by decide +kernel
theorem dX12_monitors_28 : decode cX12_monitors 28 = .ok (.iconst 0, 1) := by decide +kernel
theorem dX12_monitors_29 : decode cX12_monitors 29 = .ok (.iadd, 1) := by decide +kernel
theorem dX12_monitors_30 : decode cX12_monitors 30 = .ok (.istore_n 1, 1) := by decide +kernel
theorem dX12_monitors_31 : decode cX12_monitors 31 = .ok (.iinc 2 1, 3) := by decide +kernel
theorem dX12_monitors_34 : decode cX12_monitors 34 = .ok (.goto (-30), 3) := by decide +kernel
theorem dX12_monitors_37 : decode cX12_monitors 37 = .ok (.iload_n 1, 1) := by decide +kernel
theorem dX12_monitors_38 : decode cX12_monitors 38 = .ok (.ireturn, 1) := by decide +kernel
theorem dX12_isHeld_0 : decode cX12_isHeld 0 = .ok (.aload_n 0, 1) := by decide +kernel
theorem dX12_isHeld_1 : decode cX12_isHeld 1 = .ok (.getfield 7, 3) := by decide +kernel
theorem dX12_isHeld_4 : decode cX12_isHeld 4 = .ok (.bipush 62, 2) := by decide +kernel
theorem dX12_isHeld_6 : decode cX12_isHeld 6 = .ok (.iload_n 1, 1) := by decide +kernel
theorem dX12_isHeld_7 : decode cX12_isHeld 7 = .ok (.iadd, 1) := by decide +kernel
theorem dX12_isHeld_8 : decode cX12_isHeld 8 = .ok (.iaload, 1) := by decide +kernel
theorem dX12_isHeld_9 : decode cX12_isHeld 9 = .ok (.ifCond .le 7, 3) := by decide +kernel
theorem dX12_isHeld_12 : decode cX12_isHeld 12 = .ok (.iconst 1, 1) := by decide +kernel
theorem dX12_isHeld_13 : decode cX12_isHeld 13 = .ok (.goto 4, 3) := by decide +kernel
theorem dX12_isHeld_16 : decode cX12_isHeld 16 = .ok (.iconst 0, 1) := by decide +kernel
theorem dX12_isHeld_17 : decode cX12_isHeld 17 = .ok (.ireturn, 1) := by decide +kernel
theorem dX12_isIdle_0 : decode cX12_isIdle 0 = .ok (.aload_n 0, 1) := by decide +kernel
theorem dX12_isIdle_1 : decode cX12_isIdle 1 = .ok (.getfield 7, 3) := by decide +kernel
theorem dX12_isIdle_4 : decode cX12_isIdle 4 = .ok (.bipush 46, 2) := by decide +kernel
theorem dX12_isIdle_6 : decode cX12_isIdle 6 = .ok (.iload_n 1, 1) := by decide +kernel
theorem dX12_isIdle_7 : decode cX12_isIdle 7 = .ok (.iadd, 1) := by decide +kernel
theorem dX12_isIdle_8 : decode cX12_isIdle 8 = .ok (.iaload, 1) := by decide +kernel
theorem dX12_isIdle_9 : decode cX12_isIdle 9 = .ok (.iconst 4, 1) := by decide +kernel
theorem dX12_isIdle_10 : decode cX12_isIdle 10 = .ok (.if_icmp .ne 39, 3) := by decide +kernel
theorem dX12_isIdle_13 : decode cX12_isIdle 13 = .ok (.aload_n 0, 1) := by decide +kernel
theorem dX12_isIdle_14 : decode cX12_isIdle 14 = .ok (.iload_n 1, 1) := by decide +kernel
theorem dX12_isIdle_15 : decode cX12_isIdle 15 = .ok (.invokevirtual 54, 3) := by decide +kernel
theorem dX12_isIdle_18 : decode cX12_isIdle 18 = .ok (.ifCond .ne 31, 3) := by decide +kernel
theorem dX12_isIdle_21 : decode cX12_isIdle 21 = .ok (.aload_n 0, 1) := by decide +kernel
theorem dX12_isIdle_22 : decode cX12_isIdle 22 = .ok (.getfield 7, 3) := by decide +kernel
theorem dX12_isIdle_25 : decode cX12_isIdle 25 = .ok (.bipush 110, 2) := by decide +kernel
theorem dX12_isIdle_27 : decode cX12_isIdle 27 = .ok (.iload_n 1, 1) := by decide +kernel
theorem dX12_isIdle_28 : decode cX12_isIdle 28 = .ok (.iadd, 1) := by decide +kernel
theorem dX12_isIdle_29 : decode cX12_isIdle 29 = .ok (.iaload, 1) := by decide +kernel
theorem dX12_isIdle_30 : decode cX12_isIdle 30 = .ok (.ifCond .ne 19, 3) := by decide +kernel
theorem dX12_isIdle_33 : decode cX12_isIdle 33 = .ok (.aload_n 0, 1) := by decide +kernel
theorem dX12_isIdle_34 : decode cX12_isIdle 34 = .ok (.getfield 7, 3) := by decide +kernel
theorem dX12_isIdle_37 : decode cX12_isIdle 37 = .ok (.bipush 118, 2) := by decide +kernel
theorem dX12_isIdle_39 : decode cX12_isIdle 39 = .ok (.iload_n 1, 1) := by decide +kernel
theorem dX12_isIdle_40 : decode cX12_isIdle 40 = .ok (.iadd, 1) := by decide +kernel
theorem dX12_isIdle_41 : decode cX12_isIdle 41 = .ok (.iaload, 1) := by decide +kernel
theorem dX12_isIdle_42 : decode cX12_isIdle 42 = .ok (.ifCond .ne 7, 3) := by decide +kernel
theorem dX12_isIdle_45 : decode cX12_isIdle 45 = .ok (.iconst 1, 1) := by decide +kernel
theorem dX12_isIdle_46 : decode cX12_isIdle 46 = .ok (.goto 4, 3) := by decide +kernel
theorem dX12_isIdle_49 : decode cX12_isIdle 49 = .ok (.iconst 0, 1) := by decide +kernel
theorem dX12_isIdle_50 : decode cX12_isIdle 50 = .ok (.ireturn, 1) := by decide +kernel
theorem dX12_deflate_0 : decode cX12_deflate 0 = .ok (.aload_n 0, 1) := by decide +kernel
theorem dX12_deflate_1 : decode cX12_deflate 1 = .ok (.getfield 7, 3) := by decide +kernel
theorem dX12_deflate_4 : decode cX12_deflate 4 = .ok (.bipush 46, 2) := by decide +kernel
theorem dX12_deflate_6 : decode cX12_deflate 6 = .ok (.iload_n 1, 1) := by decide +kernel
theorem dX12_deflate_7 : decode cX12_deflate 7 = .ok (.iadd, 1) := by decide +kernel
theorem dX12_deflate_8 : decode cX12_deflate 8 = .ok (.iconst 0, 1) := by decide +kernel
theorem dX12_deflate_9 : decode cX12_deflate 9 = .ok (.iastore, 1) := by decide +kernel
theorem dX12_deflate_10 : decode cX12_deflate 10 = .ok (.aload_n 0, 1) := by decide +kernel
theorem dX12_deflate_11 : decode cX12_deflate 11 = .ok (.getfield 7, 3) := by decide +kernel
theorem dX12_deflate_14 : decode cX12_deflate 14 = .ok (.sipush 234, 3) := by decide +kernel
theorem dX12_deflate_17 : decode cX12_deflate 17 = .ok (.dup2, 1) := by decide +kernel
theorem dX12_deflate_18 : decode cX12_deflate 18 = .ok (.iaload, 1) := by decide +kernel
theorem dX12_deflate_19 : decode cX12_deflate 19 = .ok (.iconst 1, 1) := by decide +kernel
theorem dX12_deflate_20 : decode cX12_deflate 20 = .ok (.iadd, 1) := by decide +kernel
theorem dX12_deflate_21 : decode cX12_deflate 21 = .ok (.iastore, 1) := by decide +kernel
theorem dX12_deflate_22 : decode cX12_deflate 22 = .ok (.return_, 1) := by decide +kernel
theorem dX12_inflates_0 : decode cX12_inflates 0 = .ok (.aload_n 0, 1) := by decide +kernel
theorem dX12_inflates_1 : decode cX12_inflates 1 = .ok (.invokevirtual 50, 3) := by decide +kernel
theorem dX12_inflates_4 : decode cX12_inflates 4 = .ok (.aload_n 0, 1) := by decide +kernel
theorem dX12_inflates_5 : decode cX12_inflates 5 = .ok (.getfield 7, 3) := by decide +kernel
theorem dX12_inflates_8 : decode cX12_inflates 8 = .ok (.bipush 7, 2) := by decide +kernel
theorem dX12_inflates_10 : decode cX12_inflates 10 = .ok (.iaload, 1) := by decide +kernel
theorem dX12_inflates_11 : decode cX12_inflates 11 = .ok (.if_icmp .lt 65, 3) := by decide +kernel
theorem dX12_inflates_14 : decode cX12_inflates 14 = .ok (.iconst (-1), 1) := by decide +kernel
theorem dX12_inflates_15 : decode cX12_inflates 15 = .ok (.istore_n 2, 1) := by decide +kernel
theorem dX12_inflates_16 : decode cX12_inflates 16 = .ok (.iconst 0, 1) := by decide +kernel
theorem dX12_inflates_17 : decode cX12_inflates 17 = .ok (.istore_n 3, 1) := by decide +kernel
theorem dX12_inflates_18 : decode cX12_inflates 18 = .ok (.iload_n 3, 1) := by decide +kernel
theorem dX12_inflates_19 : decode cX12_inflates 19 = .ok (.bipush 8, 2) := by decide +kernel
theorem dX12_inflates_21 : decode cX12_inflates 21 = .ok (.if_icmp .ge 44, 3) := by decide +kernel
theorem dX12_inflates_24 : decode cX12_inflates 24 = .ok (.aload_n 0, 1) := by decide +kernel
theorem dX12_inflates_25 : decode cX12_inflates 25 = .ok (.iload_n 3, 1) := by decide +kernel
theorem dX12_inflates_26 : decode cX12_inflates 26 = .ok (.invokevirtual 58, 3) := by decide +kernel
theorem dX12_inflates_29 : decode cX12_inflates 29 = .ok (.ifCond .eq 30, 3) := by decide +kernel
theorem dX12_inflates_32 : decode cX12_inflates 32 = .ok (.iload_n 2, 1) := by decide +kernel
theorem dX12_inflates_33 : decode cX12_inflates 33 = .ok (.ifCond .lt 24, 3) := by decide +kernel
theorem dX12_inflates_36 : decode cX12_inflates 36 = .ok (.aload_n 0, 1) := by decide +kernel
theorem dX12_inflates_37 : decode cX12_inflates 37 = .ok (.getfield 7, 3) := by decide +kernel
theorem dX12_inflates_40 : decode cX12_inflates 40 = .ok (.bipush 102, 2) := by decide +kernel
theorem dX12_inflates_42 : decode cX12_inflates 42 = .ok (.iload_n 3, 1) := by decide +kernel
theorem dX12_inflates_43 : decode cX12_inflates 43 = .ok (.iadd, 1) := by decide +kernel
theorem dX12_inflates_44 : decode cX12_inflates 44 = .ok (.iaload, 1) := by decide +kernel
theorem dX12_inflates_45 : decode cX12_inflates 45 = .ok (.aload_n 0, 1) := by decide +kernel
theorem dX12_inflates_46 : decode cX12_inflates 46 = .ok (.getfield 7, 3) := by decide +kernel
theorem dX12_inflates_49 : decode cX12_inflates 49 = .ok (.bipush 102, 2) := by decide +kernel
theorem dX12_inflates_51 : decode cX12_inflates 51 = .ok (.iload_n 2, 1) := by decide +kernel
theorem dX12_inflates_52 : decode cX12_inflates 52 = .ok (.iadd, 1) := by decide +kernel
theorem dX12_inflates_53 : decode cX12_inflates 53 = .ok (.iaload, 1) := by decide +kernel
theorem dX12_inflates_54 : decode cX12_inflates 54 = .ok (.if_icmp .ge 5, 3) := by decide +kernel
theorem dX12_inflates_57 : decode cX12_inflates 57 = .ok (.iload_n 3, 1) := by decide +kernel
theorem dX12_inflates_58 : decode cX12_inflates 58 = .ok (.istore_n 2, 1) := by decide +kernel
theorem dX12_inflates_59 : decode cX12_inflates 59 = .ok (.iinc 3 1, 3) := by decide +kernel
theorem dX12_inflates_62 : decode cX12_inflates 62 = .ok (.goto (-44), 3) := by decide +kernel
theorem dX12_inflates_65 : decode cX12_inflates 65 = .ok (.iload_n 2, 1) := by decide +kernel
theorem dX12_inflates_66 : decode cX12_inflates 66 = .ok (.ifCond .ge 5, 3) := by decide +kernel
theorem dX12_inflates_69 : decode cX12_inflates 69 = .ok (.iconst 0, 1) := by decide +kernel
theorem dX12_inflates_70 : decode cX12_inflates 70 = .ok (.ireturn, 1) := by decide +kernel
theorem dX12_inflates_71 : decode cX12_inflates 71 = .ok (.aload_n 0, 1) := by decide +kernel
theorem dX12_inflates_72 : decode cX12_inflates 72 = .ok (.iload_n 2, 1) := by decide +kernel
theorem dX12_inflates_73 : decode cX12_inflates 73 = .ok (.invokevirtual 61, 3) := by decide +kernel
theorem dX12_inflates_76 : decode cX12_inflates 76 = .ok (.aload_n 0, 1) := by decide +kernel
theorem dX12_inflates_77 : decode cX12_inflates 77 = .ok (.getfield 7, 3) := by decide +kernel
theorem dX12_inflates_80 : decode cX12_inflates 80 = .ok (.bipush 46, 2) := by decide +kernel
theorem dX12_inflates_82 : decode cX12_inflates 82 = .ok (.iload_n 1, 1) := by decide +kernel
theorem dX12_inflates_83 : decode cX12_inflates 83 = .ok (.iadd, 1) := by decide +kernel
theorem dX12_inflates_84 : decode cX12_inflates 84 = .ok (.iconst 4, 1) := by decide +kernel
theorem dX12_inflates_85 : decode cX12_inflates 85 = .ok (.iastore, 1) := by decide +kernel
theorem dX12_inflates_86 : decode cX12_inflates 86 = .ok (.aload_n 0, 1) := by decide +kernel
theorem dX12_inflates_87 : decode cX12_inflates 87 = .ok (.getfield 7, 3) := by decide +kernel
theorem dX12_inflates_90 : decode cX12_inflates 90 = .ok (.bipush 70, 2) := by decide +kernel
theorem dX12_inflates_92 : decode cX12_inflates 92 = .ok (.iload_n 1, 1) := by decide +kernel
theorem dX12_inflates_93 : decode cX12_inflates 93 = .ok (.iadd, 1) := by decide +kernel
theorem dX12_inflates_94 : decode cX12_inflates 94 = .ok (.bipush (-8), 2) := by decide +kernel
theorem dX12_inflates_96 : decode cX12_inflates 96 = .ok (.iastore, 1) := by decide +kernel
theorem dX12_inflates_97 : decode cX12_inflates 97 = .ok (.aload_n 0, 1) := by decide +kernel
theorem dX12_inflates_98 : decode cX12_inflates 98 = .ok (.getfield 7, 3) := by decide +kernel
theorem dX12_inflates_101 : decode cX12_inflates 101 = .ok (.bipush 102, 2) := by decide +kernel
theorem dX12_inflates_103 : decode cX12_inflates 103 = .ok (.iload_n 1, 1) := by decide +kernel
theorem dX12_inflates_104 : decode cX12_inflates 104 = .ok (.iadd, 1) := by decide +kernel
theorem dX12_inflates_105 : decode cX12_inflates 105 = .ok (.aload_n 0, 1) := by decide +kernel
theorem dX12_inflates_106 : decode cX12_inflates 106 = .ok (.getfield 7, 3) := by decide +kernel
theorem dX12_inflates_109 : decode cX12_inflates 109 = .ok (.bipush 9, 2) := by decide +kernel
theorem dX12_inflates_111 : decode cX12_inflates 111 = .ok (.iaload, 1) := by decide +kernel
theorem dX12_inflates_112 : decode cX12_inflates 112 = .ok (.iastore, 1) := by decide +kernel
theorem dX12_inflates_113 : decode cX12_inflates 113 = .ok (.aload_n 0, 1) := by decide +kernel
theorem dX12_inflates_114 : decode cX12_inflates 114 = .ok (.getfield 7, 3) := by decide +kernel
theorem dX12_inflates_117 : decode cX12_inflates 117 = .ok (.sipush 233, 3) := by decide +kernel
theorem dX12_inflates_120 : decode cX12_inflates 120 = .ok (.dup2, 1) := by decide +kernel
theorem dX12_inflates_121 : decode cX12_inflates 121 = .ok (.iaload, 1) := by decide +kernel
theorem dX12_inflates_122 : decode cX12_inflates 122 = .ok (.iconst 1, 1) := by decide +kernel
theorem dX12_inflates_123 : decode cX12_inflates 123 = .ok (.iadd, 1) := by decide +kernel
theorem dX12_inflates_124 : decode cX12_inflates 124 = .ok (.iastore, 1) := by decide +kernel
theorem dX12_inflates_125 : decode cX12_inflates 125 = .ok (.iconst 1, 1) := by decide +kernel
theorem dX12_inflates_126 : decode cX12_inflates 126 = .ok (.ireturn, 1) := by decide +kernel
theorem dX12_queueUp_0 : decode cX12_queueUp 0 = .ok (.aload_n 0, 1) := by decide +kernel
theorem dX12_queueUp_1 : decode cX12_queueUp 1 = .ok (.getfield 7, 3) := by decide +kernel
theorem dX12_queueUp_4 : decode cX12_queueUp 4 = .ok (.bipush 126, 2) := by decide +kernel
theorem dX12_queueUp_6 : decode cX12_queueUp 6 = .ok (.bipush 6, 2) := by decide +kernel
theorem dX12_queueUp_8 : decode cX12_queueUp 8 = .ok (.iload_n 2, 1) := by decide +kernel
theorem dX12_queueUp_9 : decode cX12_queueUp 9 = .ok (.imul, 1) := by decide +kernel
theorem dX12_queueUp_10 : decode cX12_queueUp 10 = .ok (.iadd, 1) := by decide +kernel
theorem dX12_queueUp_11 : decode cX12_queueUp 11 = .ok (.aload_n 0, 1) := by decide +kernel
theorem dX12_queueUp_12 : decode cX12_queueUp 12 = .ok (.getfield 7, 3) := by decide +kernel
theorem dX12_queueUp_15 : decode cX12_queueUp 15 = .ok (.bipush 110, 2) := by decide +kernel
theorem dX12_queueUp_17 : decode cX12_queueUp 17 = .ok (.iload_n 2, 1) := by decide +kernel
theorem dX12_queueUp_18 : decode cX12_queueUp 18 = .ok (.iadd, 1) := by decide +kernel
theorem dX12_queueUp_19 : decode cX12_queueUp 19 = .ok (.iaload, 1) := by decide +kernel
theorem dX12_queueUp_20 : decode cX12_queueUp 20 = .ok (.iadd, 1) := by decide +kernel
theorem dX12_queueUp_21 : decode cX12_queueUp 21 = .ok (.iload_n 1, 1) := by decide +kernel
theorem dX12_queueUp_22 : decode cX12_queueUp 22 = .ok (.iastore, 1) := by decide +kernel
theorem dX12_queueUp_23 : decode cX12_queueUp 23 = .ok (.aload_n 0, 1) := by decide +kernel
theorem dX12_queueUp_24 : decode cX12_queueUp 24 = .ok (.getfield 7, 3) := by decide +kernel
theorem dX12_queueUp_27 : decode cX12_queueUp 27 = .ok (.bipush 110, 2) := by decide +kernel
theorem dX12_queueUp_29 : decode cX12_queueUp 29 = .ok (.iload_n 2, 1) := by decide +kernel
theorem dX12_queueUp_30 : decode cX12_queueUp 30 = .ok (.iadd, 1) := by decide +kernel
theorem dX12_queueUp_31 : decode cX12_queueUp 31 = .ok (.dup2, 1) := by decide +kernel
theorem dX12_queueUp_32 : decode cX12_queueUp 32 = .ok (.iaload, 1) := by decide +kernel
theorem dX12_queueUp_33 : decode cX12_queueUp 33 = .ok (.iconst 1, 1) := by decide +kernel
theorem dX12_queueUp_34 : decode cX12_queueUp 34 = .ok (.iadd, 1) := by decide +kernel
theorem dX12_queueUp_35 : decode cX12_queueUp 35 = .ok (.iastore, 1) := by decide +kernel
theorem dX12_queueUp_36 : decode cX12_queueUp 36 = .ok (.aload_n 0, 1) := by decide +kernel
theorem dX12_queueUp_37 : decode cX12_queueUp 37 = .ok (.getfield 7, 3) := by decide +kernel
theorem dX12_queueUp_40 : decode cX12_queueUp 40 = .ok (.bipush 10, 2) := by decide +kernel
theorem dX12_queueUp_42 : decode cX12_queueUp 42 = .ok (.iload_n 1, 1) := by decide +kernel
theorem dX12_queueUp_43 : decode cX12_queueUp 43 = .ok (.iadd, 1) := by decide +kernel
theorem dX12_queueUp_44 : decode cX12_queueUp 44 = .ok (.iconst 1, 1) := by decide +kernel
theorem dX12_queueUp_45 : decode cX12_queueUp 45 = .ok (.iastore, 1) := by decide +kernel
theorem dX12_queueUp_46 : decode cX12_queueUp 46 = .ok (.aload_n 0, 1) := by decide +kernel
theorem dX12_queueUp_47 : decode cX12_queueUp 47 = .ok (.getfield 7, 3) := by decide +kernel
theorem dX12_queueUp_50 : decode cX12_queueUp 50 = .ok (.bipush 28, 2) := by decide +kernel
theorem dX12_queueUp_52 : decode cX12_queueUp 52 = .ok (.iload_n 1, 1) := by decide +kernel
theorem dX12_queueUp_53 : decode cX12_queueUp 53 = .ok (.iadd, 1) := by decide +kernel
theorem dX12_queueUp_54 : decode cX12_queueUp 54 = .ok (.iload_n 2, 1) := by decide +kernel
theorem dX12_queueUp_55 : decode cX12_queueUp 55 = .ok (.iastore, 1) := by decide +kernel
theorem dX12_queueUp_56 : decode cX12_queueUp 56 = .ok (.return_, 1) := by decide +kernel
theorem dX12_queueFirst_0 : decode cX12_queueFirst 0 = .ok (.aload_n 0, 1) := by decide +kernel
theorem dX12_queueFirst_1 : decode cX12_queueFirst 1 = .ok (.getfield 7, 3) := by decide +kernel
theorem dX12_queueFirst_4 : decode cX12_queueFirst 4 = .ok (.bipush 110, 2) := by decide +kernel
theorem dX12_queueFirst_6 : decode cX12_queueFirst 6 = .ok (.iload_n 2, 1) := by decide +kernel
theorem dX12_queueFirst_7 : decode cX12_queueFirst 7 = .ok (.iadd, 1) := by decide +kernel
theorem dX12_queueFirst_8 : decode cX12_queueFirst 8 = .ok (.iaload, 1) := by decide +kernel
theorem dX12_queueFirst_9 : decode cX12_queueFirst 9 = .ok (.istore_n 3, 1) := by decide +kernel
theorem dX12_queueFirst_10 : decode cX12_queueFirst 10 = .ok (.iload_n 3, 1) := by decide +kernel
theorem dX12_queueFirst_11 : decode cX12_queueFirst 11 = .ok (.ifCond .le 39, 3) := by decide +kernel
theorem dX12_queueFirst_14 : decode cX12_queueFirst 14 = .ok (.aload_n 0, 1) := by decide +kernel
theorem dX12_queueFirst_15 : decode cX12_queueFirst 15 = .ok (.getfield 7, 3) := by decide +kernel
theorem dX12_queueFirst_18 : decode cX12_queueFirst 18 = .ok (.bipush 126, 2) := by decide +kernel
theorem dX12_queueFirst_20 : decode cX12_queueFirst 20 = .ok (.bipush 6, 2) := by decide +kernel
theorem dX12_queueFirst_22 : decode cX12_queueFirst 22 = .ok (.iload_n 2, 1) := by decide +kernel
theorem dX12_queueFirst_23 : decode cX12_queueFirst 23 = .ok (.imul, 1) := by decide +kernel
theorem dX12_queueFirst_24 : decode cX12_queueFirst 24 = .ok (.iadd, 1) := by decide +kernel
theorem dX12_queueFirst_25 : decode cX12_queueFirst 25 = .ok (.iload_n 3, 1) := by decide +kernel
theorem dX12_queueFirst_26 : decode cX12_queueFirst 26 = .ok (.iadd, 1) := by decide +kernel
theorem dX12_queueFirst_27 : decode cX12_queueFirst 27 = .ok (.aload_n 0, 1) := by decide +kernel
theorem dX12_queueFirst_28 : decode cX12_queueFirst 28 = .ok (.getfield 7, 3) := by decide +kernel
theorem dX12_queueFirst_31 : decode cX12_queueFirst 31 = .ok (.bipush 126, 2) := by decide +kernel
theorem dX12_queueFirst_33 : decode cX12_queueFirst 33 = .ok (.bipush 6, 2) := by decide +kernel
theorem dX12_queueFirst_35 : decode cX12_queueFirst 35 = .ok (.iload_n 2, 1) := by decide +kernel
theorem dX12_queueFirst_36 : decode cX12_queueFirst 36 = .ok (.imul, 1) := by decide +kernel
theorem dX12_queueFirst_37 : decode cX12_queueFirst 37 = .ok (.iadd, 1) := by decide +kernel
theorem dX12_queueFirst_38 : decode cX12_queueFirst 38 = .ok (.iload_n 3, 1) := by decide +kernel
theorem dX12_queueFirst_39 : decode cX12_queueFirst 39 = .ok (.iadd, 1) := by decide +kernel
theorem dX12_queueFirst_40 : decode cX12_queueFirst 40 = .ok (.iconst 1, 1) := by decide +kernel
theorem dX12_queueFirst_41 : decode cX12_queueFirst 41 = .ok (.isub, 1) := by decide +kernel
theorem dX12_queueFirst_42 : decode cX12_queueFirst 42 = .ok (.iaload, 1) := by decide +kernel
theorem dX12_queueFirst_43 : decode cX12_queueFirst 43 = .ok (.iastore, 1) := by decide +kernel
theorem dX12_queueFirst_44 : decode cX12_queueFirst 44 = .ok (.iinc 3 (-1), 3) := by decide +kernel
theorem dX12_queueFirst_47 : decode cX12_queueFirst 47 = .ok (.goto (-37), 3) := by decide +kernel
theorem dX12_queueFirst_50 : decode cX12_queueFirst 50 = .ok (.aload_n 0, 1) := by decide +kernel
theorem dX12_queueFirst_51 : decode cX12_queueFirst 51 = .ok (.getfield 7, 3) := by decide +kernel
theorem dX12_queueFirst_54 : decode cX12_queueFirst 54 = .ok (.bipush 126, 2) := by decide +kernel
theorem dX12_queueFirst_56 : decode cX12_queueFirst 56 = .ok (.bipush 6, 2) := by decide +kernel
theorem dX12_queueFirst_58 : decode cX12_queueFirst 58 = .ok (.iload_n 2, 1) := by decide +kernel
theorem dX12_queueFirst_59 : decode cX12_queueFirst 59 = .ok (.imul, 1) := by decide +kernel
theorem dX12_queueFirst_60 : decode cX12_queueFirst 60 = .ok (.iadd, 1) := by decide +kernel
theorem dX12_queueFirst_61 : decode cX12_queueFirst 61 = .ok (.iload_n 1, 1) := by decide +kernel
theorem dX12_queueFirst_62 : decode cX12_queueFirst 62 = .ok (.iastore, 1) := by decide +kernel
theorem dX12_queueFirst_63 : decode cX12_queueFirst 63 = .ok (.aload_n 0, 1) := by decide +kernel
theorem dX12_queueFirst_64 : decode cX12_queueFirst 64 = .ok (.getfield 7, 3) := by decide +kernel
theorem dX12_queueFirst_67 : decode cX12_queueFirst 67 = .ok (.bipush 110, 2) := by decide +kernel
theorem dX12_queueFirst_69 : decode cX12_queueFirst 69 = .ok (.iload_n 2, 1) := by decide +kernel
theorem dX12_queueFirst_70 : decode cX12_queueFirst 70 = .ok (.iadd, 1) := by decide +kernel
theorem dX12_queueFirst_71 : decode cX12_queueFirst 71 = .ok (.dup2, 1) := by decide +kernel
theorem dX12_queueFirst_72 : decode cX12_queueFirst 72 = .ok (.iaload, 1) := by decide +kernel
theorem dX12_queueFirst_73 : decode cX12_queueFirst 73 = .ok (.iconst 1, 1) := by decide +kernel
theorem dX12_queueFirst_74 : decode cX12_queueFirst 74 = .ok (.iadd, 1) := by decide +kernel
theorem dX12_queueFirst_75 : decode cX12_queueFirst 75 = .ok (.iastore, 1) := by decide +kernel
theorem dX12_queueFirst_76 : decode cX12_queueFirst 76 = .ok (.aload_n 0, 1) := by decide +kernel
theorem dX12_queueFirst_77 : decode cX12_queueFirst 77 = .ok (.getfield 7, 3) := by decide +kernel
theorem dX12_queueFirst_80 : decode cX12_queueFirst 80 = .ok (.bipush 10, 2) := by decide +kernel
theorem dX12_queueFirst_82 : decode cX12_queueFirst 82 = .ok (.iload_n 1, 1) := by decide +kernel
theorem dX12_queueFirst_83 : decode cX12_queueFirst 83 = .ok (.iadd, 1) := by decide +kernel
theorem dX12_queueFirst_84 : decode cX12_queueFirst 84 = .ok (.iconst 1, 1) := by decide +kernel
theorem dX12_queueFirst_85 : decode cX12_queueFirst 85 = .ok (.iastore, 1) := by decide +kernel
theorem dX12_queueFirst_86 : decode cX12_queueFirst 86 = .ok (.aload_n 0, 1) := by decide +kernel
theorem dX12_queueFirst_87 : decode cX12_queueFirst 87 = .ok (.getfield 7, 3) := by decide +kernel
theorem dX12_queueFirst_90 : decode cX12_queueFirst 90 = .ok (.bipush 28, 2) := by decide +kernel
theorem dX12_queueFirst_92 : decode cX12_queueFirst 92 = .ok (.iload_n 1, 1) := by decide +kernel
theorem dX12_queueFirst_93 : decode cX12_queueFirst 93 = .ok (.iadd, 1) := by decide +kernel
theorem dX12_queueFirst_94 : decode cX12_queueFirst 94 = .ok (.iload_n 2, 1) := by decide +kernel
theorem dX12_queueFirst_95 : decode cX12_queueFirst 95 = .ok (.iastore, 1) := by decide +kernel
theorem dX12_queueFirst_96 : decode cX12_queueFirst 96 = .ok (.return_, 1) := by decide +kernel
theorem dX12_takeOut_0 : decode cX12_takeOut 0 = .ok (.iconst 0, 1) := by decide +kernel
theorem dX12_takeOut_1 : decode cX12_takeOut 1 = .ok (.istore 4, 2) := by decide +kernel
theorem dX12_takeOut_3 : decode cX12_takeOut 3 = .ok (.iconst 0, 1) := by decide +kernel
theorem dX12_takeOut_4 : decode cX12_takeOut 4 = .ok (.istore 5, 2) := by decide +kernel
theorem dX12_takeOut_6 : decode cX12_takeOut 6 = .ok (.iload 5, 2) := by decide +kernel
theorem dX12_takeOut_8 : decode cX12_takeOut 8 = .ok (.aload_n 0, 1) := by decide +kernel
theorem dX12_takeOut_9 : decode cX12_takeOut 9 = .ok (.getfield 7, 3) := by decide +kernel
theorem dX12_takeOut_12 : decode cX12_takeOut 12 = .ok (.iload_n 3, 1) := by decide +kernel
theorem dX12_takeOut_13 : decode cX12_takeOut 13 = .ok (.iaload, 1) := by decide +kernel
theorem dX12_takeOut_14 : decode cX12_takeOut 14 = .ok (.if_icmp .ge 40, 3) := by decide +kernel
theorem dX12_takeOut_17 : decode cX12_takeOut 17 = .ok (.aload_n 0, 1) := by decide +kernel
theorem dX12_takeOut_18 : decode cX12_takeOut 18 = .ok (.getfield 7, 3) := by decide +kernel
theorem dX12_takeOut_21 : decode cX12_takeOut 21 = .ok (.iload_n 2, 1) := by decide +kernel
theorem dX12_takeOut_22 : decode cX12_takeOut 22 = .ok (.iload 5, 2) := by decide +kernel
theorem dX12_takeOut_24 : decode cX12_takeOut 24 = .ok (.iadd, 1) := by decide +kernel
theorem dX12_takeOut_25 : decode cX12_takeOut 25 = .ok (.iaload, 1) := by decide +kernel
theorem dX12_takeOut_26 : decode cX12_takeOut 26 = .ok (.istore 6, 2) := by decide +kernel
theorem dX12_takeOut_28 : decode cX12_takeOut 28 = .ok (.iload 6, 2) := by decide +kernel
theorem dX12_takeOut_30 : decode cX12_takeOut 30 = .ok (.iload_n 1, 1) := by decide +kernel
theorem dX12_takeOut_31 : decode cX12_takeOut 31 = .ok (.if_icmp .eq 17, 3) := by decide +kernel
theorem dX12_takeOut_34 : decode cX12_takeOut 34 = .ok (.aload_n 0, 1) := by decide +kernel
theorem dX12_takeOut_35 : decode cX12_takeOut 35 = .ok (.getfield 7, 3) := by decide +kernel
theorem dX12_takeOut_38 : decode cX12_takeOut 38 = .ok (.iload_n 2, 1) := by decide +kernel
theorem dX12_takeOut_39 : decode cX12_takeOut 39 = .ok (.iload 4, 2) := by decide +kernel
theorem dX12_takeOut_41 : decode cX12_takeOut 41 = .ok (.iadd, 1) := by decide +kernel
theorem dX12_takeOut_42 : decode cX12_takeOut 42 = .ok (.iload 6, 2) := by decide +kernel
theorem dX12_takeOut_44 : decode cX12_takeOut 44 = .ok (.iastore, 1) := by decide +kernel
theorem dX12_takeOut_45 : decode cX12_takeOut 45 = .ok (.iinc 4 1, 3) := by decide +kernel
theorem dX12_takeOut_48 : decode cX12_takeOut 48 = .ok (.iinc 5 1, 3) := by decide +kernel
theorem dX12_takeOut_51 : decode cX12_takeOut 51 = .ok (.goto (-45), 3) := by decide +kernel
theorem dX12_takeOut_54 : decode cX12_takeOut 54 = .ok (.aload_n 0, 1) := by decide +kernel
theorem dX12_takeOut_55 : decode cX12_takeOut 55 = .ok (.getfield 7, 3) := by decide +kernel
theorem dX12_takeOut_58 : decode cX12_takeOut 58 = .ok (.iload_n 3, 1) := by decide +kernel
theorem dX12_takeOut_59 : decode cX12_takeOut 59 = .ok (.iload 4, 2) := by decide +kernel
theorem dX12_takeOut_61 : decode cX12_takeOut 61 = .ok (.iastore, 1) := by decide +kernel
theorem dX12_takeOut_62 : decode cX12_takeOut 62 = .ok (.return_, 1) := by decide +kernel
theorem dX12_endWait_0 : decode cX12_endWait 0 = .ok (.aload_n 0, 1) := by decide +kernel
theorem dX12_endWait_1 : decode cX12_endWait 1 = .ok (.getfield 7, 3) := by decide +kernel
theorem dX12_endWait_4 : decode cX12_endWait 4 = .ok (.bipush 28, 2) := by decide +kernel
theorem dX12_endWait_6 : decode cX12_endWait 6 = .ok (.iload_n 1, 1) := by decide +kernel
theorem dX12_endWait_7 : decode cX12_endWait 7 = .ok (.iadd, 1) := by decide +kernel
theorem dX12_endWait_8 : decode cX12_endWait 8 = .ok (.iaload, 1) := by decide +kernel
theorem dX12_endWait_9 : decode cX12_endWait 9 = .ok (.istore 4, 2) := by decide +kernel
theorem dX12_endWait_11 : decode cX12_endWait 11 = .ok (.aload_n 0, 1) := by decide +kernel
theorem dX12_endWait_12 : decode cX12_endWait 12 = .ok (.iload_n 1, 1) := by decide +kernel
theorem dX12_endWait_13 : decode cX12_endWait 13 = .ok (.sipush 174, 3) := by decide +kernel
theorem dX12_endWait_16 : decode cX12_endWait 16 = .ok (.bipush 6, 2) := by decide +kernel
theorem dX12_endWait_18 : decode cX12_endWait 18 = .ok (.iload 4, 2) := by decide +kernel
theorem dX12_endWait_20 : decode cX12_endWait 20 = .ok (.imul, 1) := by decide +kernel
theorem dX12_endWait_21 : decode cX12_endWait 21 = .ok (.iadd, 1) := by decide +kernel
theorem dX12_endWait_22 : decode cX12_endWait 22 = .ok (.bipush 118, 2) := by decide +kernel
theorem dX12_endWait_24 : decode cX12_endWait 24 = .ok (.iload 4, 2) := by decide +kernel
theorem dX12_endWait_26 : decode cX12_endWait 26 = .ok (.iadd, 1) := by decide +kernel
theorem dX12_endWait_27 : decode cX12_endWait 27 = .ok (.invokevirtual 64, 3) := by decide +kernel
theorem dX12_endWait_30 : decode cX12_endWait 30 = .ok (.aload_n 0, 1) := by decide +kernel
theorem dX12_endWait_31 : decode cX12_endWait 31 = .ok (.getfield 7, 3) := by decide +kernel
theorem dX12_endWait_34 : decode cX12_endWait 34 = .ok (.bipush 22, 2) := by decide +kernel
theorem dX12_endWait_36 : decode cX12_endWait 36 = .ok (.iload_n 1, 1) := by decide +kernel
theorem dX12_endWait_37 : decode cX12_endWait 37 = .ok (.iadd, 1) := by decide +kernel
theorem dX12_endWait_38 : decode cX12_endWait 38 = .ok (.iload_n 2, 1) := by decide +kernel
theorem dX12_endWait_39 : decode cX12_endWait 39 = .ok (.iastore, 1) := by decide +kernel
theorem dX12_endWait_40 : decode cX12_endWait 40 = .ok (.iload_n 3, 1) := by decide +kernel
theorem dX12_endWait_41 : decode cX12_endWait 41 = .ok (.ifCond .eq 13, 3) := by decide +kernel
theorem dX12_endWait_44 : decode cX12_endWait 44 = .ok (.aload_n 0, 1) := by decide +kernel
theorem dX12_endWait_45 : decode cX12_endWait 45 = .ok (.iload_n 1, 1) := by decide +kernel
theorem dX12_endWait_46 : decode cX12_endWait 46 = .ok (.iload 4, 2) := by decide +kernel
theorem dX12_endWait_48 : decode cX12_endWait 48 = .ok (.invokevirtual 68, 3) := by decide +kernel
theorem dX12_endWait_51 : decode cX12_endWait 51 = .ok (.goto 10, 3) := by decide +kernel
theorem dX12_endWait_54 : decode cX12_endWait 54 = .ok (.aload_n 0, 1) := by decide +kernel
theorem dX12_endWait_55 : decode cX12_endWait 55 = .ok (.iload_n 1, 1) := by decide +kernel
theorem dX12_endWait_56 : decode cX12_endWait 56 = .ok (.iload 4, 2) := by decide +kernel
theorem dX12_endWait_58 : decode cX12_endWait 58 = .ok (.invokevirtual 72, 3) := by decide +kernel
theorem dX12_endWait_61 : decode cX12_endWait 61 = .ok (.return_, 1) := by decide +kernel
theorem dX12_hold_0 : decode cX12_hold 0 = .ok (.aload_n 0, 1) := by decide +kernel
theorem dX12_hold_1 : decode cX12_hold 1 = .ok (.getfield 7, 3) := by decide +kernel
theorem dX12_hold_4 : decode cX12_hold 4 = .ok (.bipush 54, 2) := by decide +kernel
theorem dX12_hold_6 : decode cX12_hold 6 = .ok (.iload_n 2, 1) := by decide +kernel
theorem dX12_hold_7 : decode cX12_hold 7 = .ok (.iadd, 1) := by decide +kernel
theorem dX12_hold_8 : decode cX12_hold 8 = .ok (.iload_n 1, 1) := by decide +kernel
theorem dX12_hold_9 : decode cX12_hold 9 = .ok (.iastore, 1) := by decide +kernel
theorem dX12_hold_10 : decode cX12_hold 10 = .ok (.aload_n 0, 1) := by decide +kernel
theorem dX12_hold_11 : decode cX12_hold 11 = .ok (.getfield 7, 3) := by decide +kernel
theorem dX12_hold_14 : decode cX12_hold 14 = .ok (.bipush 62, 2) := by decide +kernel
theorem dX12_hold_16 : decode cX12_hold 16 = .ok (.iload_n 2, 1) := by decide +kernel
theorem dX12_hold_17 : decode cX12_hold 17 = .ok (.iadd, 1) := by decide +kernel
theorem dX12_hold_18 : decode cX12_hold 18 = .ok (.iload_n 3, 1) := by decide +kernel
theorem dX12_hold_19 : decode cX12_hold 19 = .ok (.iastore, 1) := by decide +kernel
theorem dX12_hold_20 : decode cX12_hold 20 = .ok (.aload_n 0, 1) := by decide +kernel
theorem dX12_hold_21 : decode cX12_hold 21 = .ok (.getfield 7, 3) := by decide +kernel
theorem dX12_hold_24 : decode cX12_hold 24 = .ok (.bipush 86, 2) := by decide +kernel
theorem dX12_hold_26 : decode cX12_hold 26 = .ok (.iload_n 2, 1) := by decide +kernel
theorem dX12_hold_27 : decode cX12_hold 27 = .ok (.iadd, 1) := by decide +kernel
theorem dX12_hold_28 : decode cX12_hold 28 = .ok (.iaload, 1) := by decide +kernel
theorem dX12_hold_29 : decode cX12_hold 29 = .ok (.iconst 1, 1) := by decide +kernel
theorem dX12_hold_30 : decode cX12_hold 30 = .ok (.if_icmp .ne 25, 3) := by decide +kernel
theorem dX12_hold_33 : decode cX12_hold 33 = .ok (.aload_n 0, 1) := by decide +kernel
theorem dX12_hold_34 : decode cX12_hold 34 = .ok (.getfield 7, 3) := by decide +kernel
theorem dX12_hold_37 : decode cX12_hold 37 = .ok (.bipush 86, 2) := by decide +kernel
theorem dX12_hold_39 : decode cX12_hold 39 = .ok (.iload_n 2, 1) := by decide +kernel
theorem dX12_hold_40 : decode cX12_hold 40 = .ok (.iadd, 1) := by decide +kernel
theorem dX12_hold_41 : decode cX12_hold 41 = .ok (.iconst 0, 1) := by decide +kernel
theorem dX12_hold_42 : decode cX12_hold 42 = .ok (.iastore, 1) := by decide +kernel
theorem dX12_hold_43 : decode cX12_hold 43 = .ok (.aload_n 0, 1) := by decide +kernel
theorem dX12_hold_44 : decode cX12_hold 44 = .ok (.getfield 7, 3) := by decide +kernel
theorem dX12_hold_47 : decode cX12_hold 47 = .ok (.sipush 239, 3) := by decide +kernel
theorem dX12_hold_50 : decode cX12_hold 50 = .ok (.dup2, 1) := by decide +kernel
theorem dX12_hold_51 : decode cX12_hold 51 = .ok (.iaload, 1) := by decide +kernel
theorem dX12_hold_52 : decode cX12_hold 52 = .ok (.iconst 1, 1) := by decide +kernel
theorem dX12_hold_53 : decode cX12_hold 53 = .ok (.iadd, 1) := by decide +kernel
theorem dX12_hold_54 : decode cX12_hold 54 = .ok (.iastore, 1) := by decide +kernel
theorem dX12_hold_55 : decode cX12_hold 55 = .ok (.return_, 1) := by decide +kernel
theorem dX12_acquire_0 : decode cX12_acquire 0 = .ok (.aload_n 0, 1) := by decide +kernel
theorem dX12_acquire_1 : decode cX12_acquire 1 = .ok (.getfield 7, 3) := by decide +kernel
theorem dX12_acquire_4 : decode cX12_acquire 4 = .ok (.bipush 126, 2) := by decide +kernel
theorem dX12_acquire_6 : decode cX12_acquire 6 = .ok (.bipush 6, 2) := by decide +kernel
theorem dX12_acquire_8 : decode cX12_acquire 8 = .ok (.iload_n 1, 1) := by decide +kernel
theorem dX12_acquire_9 : decode cX12_acquire 9 = .ok (.imul, 1) := by decide +kernel
theorem dX12_acquire_10 : decode cX12_acquire 10 = .ok (.iadd, 1) := by decide +kernel
theorem dX12_acquire_11 : decode cX12_acquire 11 = .ok (.iaload, 1) := by decide +kernel
theorem dX12_acquire_12 : decode cX12_acquire 12 = .ok (.istore_n 2, 1) := by decide +kernel
theorem dX12_acquire_13 : decode cX12_acquire 13 = .ok (.aload_n 0, 1) := by decide +kernel
theorem dX12_acquire_14 : decode cX12_acquire 14 = .ok (.iload_n 2, 1) := by decide +kernel
theorem dX12_acquire_15 : decode cX12_acquire 15 = .ok (.bipush 126, 2) := by decide +kernel
theorem dX12_acquire_17 : decode cX12_acquire 17 = .ok (.bipush 6, 2) := by decide +kernel
theorem dX12_acquire_19 : decode cX12_acquire 19 = .ok (.iload_n 1, 1) := by decide +kernel
theorem dX12_acquire_20 : decode cX12_acquire 20 = .ok (.imul, 1) := by decide +kernel
theorem dX12_acquire_21 : decode cX12_acquire 21 = .ok (.iadd, 1) := by decide +kernel
theorem dX12_acquire_22 : decode cX12_acquire 22 = .ok (.bipush 110, 2) := by decide +kernel
theorem dX12_acquire_24 : decode cX12_acquire 24 = .ok (.iload_n 1, 1) := by decide +kernel
theorem dX12_acquire_25 : decode cX12_acquire 25 = .ok (.iadd, 1) := by decide +kernel
theorem dX12_acquire_26 : decode cX12_acquire 26 = .ok (.invokevirtual 64, 3) := by decide +kernel
theorem dX12_acquire_29 : decode cX12_acquire 29 = .ok (.aload_n 0, 1) := by decide +kernel
theorem dX12_acquire_30 : decode cX12_acquire 30 = .ok (.getfield 7, 3) := by decide +kernel
theorem dX12_acquire_33 : decode cX12_acquire 33 = .ok (.bipush 10, 2) := by decide +kernel
theorem dX12_acquire_35 : decode cX12_acquire 35 = .ok (.iload_n 2, 1) := by decide +kernel
theorem dX12_acquire_36 : decode cX12_acquire 36 = .ok (.iadd, 1) := by decide +kernel
theorem dX12_acquire_37 : decode cX12_acquire 37 = .ok (.iconst 0, 1) := by decide +kernel
theorem dX12_acquire_38 : decode cX12_acquire 38 = .ok (.iastore, 1) := by decide +kernel
theorem dX12_acquire_39 : decode cX12_acquire 39 = .ok (.aload_n 0, 1) := by decide +kernel
theorem dX12_acquire_40 : decode cX12_acquire 40 = .ok (.getfield 7, 3) := by decide +kernel
theorem dX12_acquire_43 : decode cX12_acquire 43 = .ok (.bipush 28, 2) := by decide +kernel
theorem dX12_acquire_45 : decode cX12_acquire 45 = .ok (.iload_n 2, 1) := by decide +kernel
theorem dX12_acquire_46 : decode cX12_acquire 46 = .ok (.iadd, 1) := by decide +kernel
theorem dX12_acquire_47 : decode cX12_acquire 47 = .ok (.bipush (-8), 2) := by decide +kernel
theorem dX12_acquire_49 : decode cX12_acquire 49 = .ok (.iastore, 1) := by decide +kernel
theorem dX12_acquire_50 : decode cX12_acquire 50 = .ok (.aload_n 0, 1) := by decide +kernel
theorem dX12_acquire_51 : decode cX12_acquire 51 = .ok (.iload_n 2, 1) := by decide +kernel
theorem dX12_acquire_52 : decode cX12_acquire 52 = .ok (.iload_n 1, 1) := by decide +kernel
theorem dX12_acquire_53 : decode cX12_acquire 53 = .ok (.aload_n 0, 1) := by decide +kernel
theorem dX12_acquire_54 : decode cX12_acquire 54 = .ok (.getfield 7, 3) := by decide +kernel
theorem dX12_acquire_57 : decode cX12_acquire 57 = .ok (.bipush 40, 2) := by decide +kernel
theorem dX12_acquire_59 : decode cX12_acquire 59 = .ok (.iload_n 2, 1) := by decide +kernel
theorem dX12_acquire_60 : decode cX12_acquire 60 = .ok (.iadd, 1) := by decide +kernel
theorem dX12_acquire_61 : decode cX12_acquire 61 = .ok (.iaload, 1) := by decide +kernel
theorem dX12_acquire_62 : decode cX12_acquire 62 = .ok (.invokevirtual 75, 3) := by decide +kernel
theorem dX12_acquire_65 : decode cX12_acquire 65 = .ok (.return_, 1) := by decide +kernel
theorem dX12_release_0 : decode cX12_release 0 = .ok (.aload_n 0, 1) := by decide +kernel
theorem dX12_release_1 : decode cX12_release 1 = .ok (.getfield 7, 3) := by decide +kernel
theorem dX12_release_4 : decode cX12_release 4 = .ok (.bipush 54, 2) := by decide +kernel
theorem dX12_release_6 : decode cX12_release 6 = .ok (.iload_n 1, 1) := by decide +kernel
theorem dX12_release_7 : decode cX12_release 7 = .ok (.iadd, 1) := by decide +kernel
theorem dX12_release_8 : decode cX12_release 8 = .ok (.bipush (-8), 2) := by decide +kernel
theorem dX12_release_10 : decode cX12_release 10 = .ok (.iastore, 1) := by decide +kernel
theorem dX12_release_11 : decode cX12_release 11 = .ok (.aload_n 0, 1) := by decide +kernel
theorem dX12_release_12 : decode cX12_release 12 = .ok (.getfield 7, 3) := by decide +kernel
theorem dX12_release_15 : decode cX12_release 15 = .ok (.bipush 62, 2) := by decide +kernel
theorem dX12_release_17 : decode cX12_release 17 = .ok (.iload_n 1, 1) := by decide +kernel
theorem dX12_release_18 : decode cX12_release 18 = .ok (.iadd, 1) := by decide +kernel
theorem dX12_release_19 : decode cX12_release 19 = .ok (.iconst 0, 1) := by decide +kernel
theorem dX12_release_20 : decode cX12_release 20 = .ok (.iastore, 1) := by decide +kernel
theorem dX12_release_21 : decode cX12_release 21 = .ok (.aload_n 0, 1) := by decide +kernel
theorem dX12_release_22 : decode cX12_release 22 = .ok (.getfield 7, 3) := by decide +kernel
theorem dX12_release_25 : decode cX12_release 25 = .ok (.bipush 46, 2) := by decide +kernel
theorem dX12_release_27 : decode cX12_release 27 = .ok (.iload_n 1, 1) := by decide +kernel
theorem dX12_release_28 : decode cX12_release 28 = .ok (.iadd, 1) := by decide +kernel
theorem dX12_release_29 : decode cX12_release 29 = .ok (.iaload, 1) := by decide +kernel
theorem dX12_release_30 : decode cX12_release 30 = .ok (.iconst 3, 1) := by decide +kernel
theorem dX12_release_31 : decode cX12_release 31 = .ok (.if_icmp .ne 28, 3) := by decide +kernel
theorem dX12_release_34 : decode cX12_release 34 = .ok (.aload_n 0, 1) := by decide +kernel
theorem dX12_release_35 : decode cX12_release 35 = .ok (.getfield 7, 3) := by decide +kernel
theorem dX12_release_38 : decode cX12_release 38 = .ok (.bipush 46, 2) := by decide +kernel
theorem dX12_release_40 : decode cX12_release 40 = .ok (.iload_n 1, 1) := by decide +kernel
theorem dX12_release_41 : decode cX12_release 41 = .ok (.iadd, 1) := by decide +kernel
theorem dX12_release_42 : decode cX12_release 42 = .ok (.iconst 0, 1) := by decide +kernel
theorem dX12_release_43 : decode cX12_release 43 = .ok (.iastore, 1) := by decide +kernel
theorem dX12_release_44 : decode cX12_release 44 = .ok (.aload_n 0, 1) := by decide +kernel
theorem dX12_release_45 : decode cX12_release 45 = .ok (.getfield 7, 3) := by decide +kernel
theorem dX12_release_48 : decode cX12_release 48 = .ok (.sipush 231, 3) := by decide +kernel
theorem dX12_release_51 : decode cX12_release 51 = .ok (.dup2, 1) := by decide +kernel
theorem dX12_release_52 : decode cX12_release 52 = .ok (.iaload, 1) := by decide +kernel
theorem dX12_release_53 : decode cX12_release 53 = .ok (.iconst 1, 1) := by decide +kernel
theorem dX12_release_54 : decode cX12_release 54 = .ok (.iadd, 1) := by decide +kernel
theorem dX12_release_55 : decode cX12_release 55 = .ok (.iastore, 1) := by decide +kernel
theorem dX12_release_56 : decode cX12_release 56 = .ok (.goto 71, 3) := by decide +kernel
theorem dX12_release_59 : decode cX12_release 59 = .ok (.aload_n 0, 1) := by decide +kernel
theorem dX12_release_60 : decode cX12_release 60 = .ok (.getfield 7, 3) := by decide +kernel
theorem dX12_release_63 : decode cX12_release 63 = .ok (.bipush 46, 2) := by decide +kernel
theorem dX12_release_65 : decode cX12_release 65 = .ok (.iload_n 1, 1) := by decide +kernel
theorem dX12_release_66 : decode cX12_release 66 = .ok (.iadd, 1) := by decide +kernel
theorem dX12_release_67 : decode cX12_release 67 = .ok (.iaload, 1) := by decide +kernel
theorem dX12_release_68 : decode cX12_release 68 = .ok (.iconst 4, 1) := by decide +kernel
theorem dX12_release_69 : decode cX12_release 69 = .ok (.if_icmp .ne 58, 3) := by decide +kernel
theorem dX12_release_72 : decode cX12_release 72 = .ok (.aload_n 0, 1) := by decide +kernel
theorem dX12_release_73 : decode cX12_release 73 = .ok (.getfield 7, 3) := by decide +kernel
theorem dX12_release_76 : decode cX12_release 76 = .ok (.bipush 102, 2) := by decide +kernel
theorem dX12_release_78 : decode cX12_release 78 = .ok (.iload_n 1, 1) := by decide +kernel
theorem dX12_release_79 : decode cX12_release 79 = .ok (.iadd, 1) := by decide +kernel
theorem dX12_release_80 : decode cX12_release 80 = .ok (.aload_n 0, 1) := by decide +kernel
theorem dX12_release_81 : decode cX12_release 81 = .ok (.getfield 7, 3) := by decide +kernel
theorem dX12_release_84 : decode cX12_release 84 = .ok (.bipush 9, 2) := by decide +kernel
theorem dX12_release_86 : decode cX12_release 86 = .ok (.iaload, 1) := by decide +kernel
theorem dX12_release_87 : decode cX12_release 87 = .ok (.iastore, 1) := by decide +kernel
theorem dX12_release_88 : decode cX12_release 88 = .ok (.aload_n 0, 1) := by decide +kernel
theorem dX12_release_89 : decode cX12_release 89 = .ok (.getfield 7, 3) := by decide +kernel
theorem dX12_release_92 : decode cX12_release 92 = .ok (.bipush 110, 2) := by decide +kernel
theorem dX12_release_94 : decode cX12_release 94 = .ok (.iload_n 1, 1) := by decide +kernel
theorem dX12_release_95 : decode cX12_release 95 = .ok (.iadd, 1) := by decide +kernel
theorem dX12_release_96 : decode cX12_release 96 = .ok (.iaload, 1) := by decide +kernel
theorem dX12_release_97 : decode cX12_release 97 = .ok (.ifCond .le 30, 3) := by decide +kernel
theorem dX12_release_100 : decode cX12_release 100 = .ok (.aload_n 0, 1) := by decide +kernel
theorem dX12_release_101 : decode cX12_release 101 = .ok (.getfield 7, 3) := by decide +kernel
theorem dX12_release_104 : decode cX12_release 104 = .ok (.iconst 2, 1) := by decide +kernel
theorem dX12_release_105 : decode cX12_release 105 = .ok (.iaload, 1) := by decide +kernel
theorem dX12_release_106 : decode cX12_release 106 = .ok (.iconst 1, 1) := by decide +kernel
theorem dX12_release_107 : decode cX12_release 107 = .ok (.if_icmp .ne 20, 3) := by decide +kernel
theorem dX12_release_110 : decode cX12_release 110 = .ok (.aload_n 0, 1) := by decide +kernel
theorem dX12_release_111 : decode cX12_release 111 = .ok (.getfield 7, 3) := by decide +kernel
theorem dX12_release_114 : decode cX12_release 114 = .ok (.sipush 237, 3) := by decide +kernel
theorem dX12_release_117 : decode cX12_release 117 = .ok (.dup2, 1) := by decide +kernel
theorem dX12_release_118 : decode cX12_release 118 = .ok (.iaload, 1) := by decide +kernel
theorem dX12_release_119 : decode cX12_release 119 = .ok (.iconst 1, 1) := by decide +kernel
theorem dX12_release_120 : decode cX12_release 120 = .ok (.iadd, 1) := by decide +kernel
theorem dX12_release_121 : decode cX12_release 121 = .ok (.iastore, 1) := by decide +kernel
theorem dX12_release_122 : decode cX12_release 122 = .ok (.aload_n 0, 1) := by decide +kernel
theorem dX12_release_123 : decode cX12_release 123 = .ok (.iload_n 1, 1) := by decide +kernel
theorem dX12_release_124 : decode cX12_release 124 = .ok (.invokevirtual 78, 3) := by decide +kernel
theorem dX12_release_127 : decode cX12_release 127 = .ok (.return_, 1) := by decide +kernel
theorem dX12_record_0 : decode cX12_record 0 = .ok (.aload_n 0, 1) := by decide +kernel
theorem dX12_record_1 : decode cX12_record 1 = .ok (.getfield 7, 3) := by decide +kernel
theorem dX12_record_4 : decode cX12_record 4 = .ok (.sipush 241, 3) := by decide +kernel
theorem dX12_record_7 : decode cX12_record 7 = .ok (.iaload, 1) := by decide +kernel
theorem dX12_record_8 : decode cX12_record 8 = .ok (.bipush 60, 2) := by decide +kernel
theorem dX12_record_10 : decode cX12_record 10 = .ok (.if_icmp .ge 70, 3) := by decide +kernel
theorem dX12_record_13 : decode cX12_record 13 = .ok (.sipush 242, 3) := by decide +kernel
theorem dX12_record_16 : decode cX12_record 16 = .ok (.iconst 4, 1) := by decide +kernel
theorem dX12_record_17 : decode cX12_record 17 = .ok (.aload_n 0, 1) := by decide +kernel
theorem dX12_record_18 : decode cX12_record 18 = .ok (.getfield 7, 3) := by decide +kernel
theorem dX12_record_21 : decode cX12_record 21 = .ok (.sipush 241, 3) := by decide +kernel
theorem dX12_record_24 : decode cX12_record 24 = .ok (.iaload, 1) := by decide +kernel
theorem dX12_record_25 : decode cX12_record 25 = .ok (.imul, 1) := by decide +kernel
theorem dX12_record_26 : decode cX12_record 26 = .ok (.iadd, 1) := by decide +kernel
theorem dX12_record_27 : decode cX12_record 27 = .ok (.istore 5, 2) := by decide +kernel
theorem dX12_record_29 : decode cX12_record 29 = .ok (.aload_n 0, 1) := by decide +kernel
theorem dX12_record_30 : decode cX12_record 30 = .ok (.getfield 7, 3) := by decide +kernel
theorem dX12_record_33 : decode cX12_record 33 = .ok (.iload 5, 2) := by decide +kernel
theorem dX12_record_35 : decode cX12_record 35 = .ok (.iload_n 1, 1) := by decide +kernel
theorem dX12_record_36 : decode cX12_record 36 = .ok (.iastore, 1) := by decide +kernel
theorem dX12_record_37 : decode cX12_record 37 = .ok (.aload_n 0, 1) := by decide +kernel
theorem dX12_record_38 : decode cX12_record 38 = .ok (.getfield 7, 3) := by decide +kernel
theorem dX12_record_41 : decode cX12_record 41 = .ok (.iload 5, 2) := by decide +kernel
theorem dX12_record_43 : decode cX12_record 43 = .ok (.iconst 1, 1) := by decide +kernel
theorem dX12_record_44 : decode cX12_record 44 = .ok (.iadd, 1) := by decide +kernel
theorem dX12_record_45 : decode cX12_record 45 = .ok (.iload_n 2, 1) := by decide +kernel
theorem dX12_record_46 : decode cX12_record 46 = .ok (.iastore, 1) := by decide +kernel
theorem dX12_record_47 : decode cX12_record 47 = .ok (.aload_n 0, 1) := by decide +kernel
theorem dX12_record_48 : decode cX12_record 48 = .ok (.getfield 7, 3) := by decide +kernel
theorem dX12_record_51 : decode cX12_record 51 = .ok (.iload 5, 2) := by decide +kernel
theorem dX12_record_53 : decode cX12_record 53 = .ok (.iconst 2, 1) := by decide +kernel
theorem dX12_record_54 : decode cX12_record 54 = .ok (.iadd, 1) := by decide +kernel
theorem dX12_record_55 : decode cX12_record 55 = .ok (.iload_n 3, 1) := by decide +kernel
theorem dX12_record_56 : decode cX12_record 56 = .ok (.iastore, 1) := by decide +kernel
theorem dX12_record_57 : decode cX12_record 57 = .ok (.aload_n 0, 1) := by decide +kernel
theorem dX12_record_58 : decode cX12_record 58 = .ok (.getfield 7, 3) := by decide +kernel
theorem dX12_record_61 : decode cX12_record 61 = .ok (.iload 5, 2) := by decide +kernel
theorem dX12_record_63 : decode cX12_record 63 = .ok (.iconst 3, 1) := by decide +kernel
theorem dX12_record_64 : decode cX12_record 64 = .ok (.iadd, 1) := by decide +kernel
theorem dX12_record_65 : decode cX12_record 65 = .ok (.iload 4, 2) := by decide +kernel
theorem dX12_record_67 : decode cX12_record 67 = .ok (.iastore, 1) := by decide +kernel
theorem dX12_record_68 : decode cX12_record 68 = .ok (.aload_n 0, 1) := by decide +kernel
theorem dX12_record_69 : decode cX12_record 69 = .ok (.getfield 7, 3) := by decide +kernel
theorem dX12_record_72 : decode cX12_record 72 = .ok (.sipush 241, 3) := by decide +kernel
theorem dX12_record_75 : decode cX12_record 75 = .ok (.dup2, 1) := by decide +kernel
theorem dX12_record_76 : decode cX12_record 76 = .ok (.iaload, 1) := by decide +kernel
theorem dX12_record_77 : decode cX12_record 77 = .ok (.iconst 1, 1) := by decide +kernel
theorem dX12_record_78 : decode cX12_record 78 = .ok (.iadd, 1) := by decide +kernel
theorem dX12_record_79 : decode cX12_record 79 = .ok (.iastore, 1) := by decide +kernel
theorem dX12_record_80 : decode cX12_record 80 = .ok (.return_, 1) := by decide +kernel
theorem dX12_isValid_0 : decode cX12_isValid 0 = .ok (.aload_n 0, 1) := by decide +kernel
theorem dX12_isValid_1 : decode cX12_isValid 1 = .ok (.getfield 7, 3) := by decide +kernel
theorem dX12_isValid_4 : decode cX12_isValid 4 = .ok (.bipush 78, 2) := by decide +kernel
theorem dX12_isValid_6 : decode cX12_isValid 6 = .ok (.iload_n 1, 1) := by decide +kernel
theorem dX12_isValid_7 : decode cX12_isValid 7 = .ok (.iadd, 1) := by decide +kernel
theorem dX12_isValid_8 : decode cX12_isValid 8 = .ok (.iaload, 1) := by decide +kernel
theorem dX12_isValid_9 : decode cX12_isValid 9 = .ok (.aload_n 0, 1) := by decide +kernel
theorem dX12_isValid_10 : decode cX12_isValid 10 = .ok (.getfield 7, 3) := by decide +kernel
theorem dX12_isValid_13 : decode cX12_isValid 13 = .ok (.sipush 222, 3) := by decide +kernel
theorem dX12_isValid_16 : decode cX12_isValid 16 = .ok (.iload_n 1, 1) := by decide +kernel
theorem dX12_isValid_17 : decode cX12_isValid 17 = .ok (.iconst 3, 1) := by decide +kernel
theorem dX12_isValid_18 : decode cX12_isValid 18 = .ok (.irem, 1) := by decide +kernel
theorem dX12_isValid_19 : decode cX12_isValid 19 = .ok (.iadd, 1) := by decide +kernel
theorem dX12_isValid_20 : decode cX12_isValid 20 = .ok (.iaload, 1) := by decide +kernel
theorem dX12_isValid_21 : decode cX12_isValid 21 = .ok (.if_icmp .ne 7, 3) := by decide +kernel
theorem dX12_isValid_24 : decode cX12_isValid 24 = .ok (.iconst 1, 1) := by decide +kernel
theorem dX12_isValid_25 : decode cX12_isValid 25 = .ok (.goto 4, 3) := by decide +kernel
theorem dX12_isValid_28 : decode cX12_isValid 28 = .ok (.iconst 0, 1) := by decide +kernel
theorem dX12_isValid_29 : decode cX12_isValid 29 = .ok (.ireturn, 1) := by decide +kernel
theorem dX12_unbias_0 : decode cX12_unbias 0 = .ok (.aload_n 0, 1) := by decide +kernel
theorem dX12_unbias_1 : decode cX12_unbias 1 = .ok (.getfield 7, 3) := by decide +kernel
theorem dX12_unbias_4 : decode cX12_unbias 4 = .ok (.bipush 46, 2) := by decide +kernel
theorem dX12_unbias_6 : decode cX12_unbias 6 = .ok (.iload_n 1, 1) := by decide +kernel
theorem dX12_unbias_7 : decode cX12_unbias 7 = .ok (.iadd, 1) := by decide +kernel
theorem dX12_unbias_8 : decode cX12_unbias 8 = .ok (.aload_n 0, 1) := by decide +kernel
theorem dX12_unbias_9 : decode cX12_unbias 9 = .ok (.iload_n 1, 1) := by decide +kernel
theorem dX12_unbias_10 : decode cX12_unbias 10 = .ok (.invokevirtual 54, 3) := by decide +kernel
theorem dX12_unbias_13 : decode cX12_unbias 13 = .ok (.ifCond .eq 7, 3) := by decide +kernel
theorem dX12_unbias_16 : decode cX12_unbias 16 = .ok (.iconst 3, 1) := by decide +kernel
theorem dX12_unbias_17 : decode cX12_unbias 17 = .ok (.goto 4, 3) := by decide +kernel
theorem dX12_unbias_20 : decode cX12_unbias 20 = .ok (.iconst 0, 1) := by decide +kernel
theorem dX12_unbias_21 : decode cX12_unbias 21 = .ok (.iastore, 1) := by decide +kernel
theorem dX12_unbias_22 : decode cX12_unbias 22 = .ok (.aload_n 0, 1) := by decide +kernel
theorem dX12_unbias_23 : decode cX12_unbias 23 = .ok (.getfield 7, 3) := by decide +kernel
theorem dX12_unbias_26 : decode cX12_unbias 26 = .ok (.bipush 70, 2) := by decide +kernel
theorem dX12_unbias_28 : decode cX12_unbias 28 = .ok (.iload_n 1, 1) := by decide +kernel
theorem dX12_unbias_29 : decode cX12_unbias 29 = .ok (.iadd, 1) := by decide +kernel
theorem dX12_unbias_30 : decode cX12_unbias 30 = .ok (.bipush (-8), 2) := by decide +kernel
theorem dX12_unbias_32 : decode cX12_unbias 32 = .ok (.iastore, 1) := by decide +kernel
theorem dX12_unbias_33 : decode cX12_unbias 33 = .ok (.return_, 1) := by decide +kernel
theorem dX12_revoke_0 : decode cX12_revoke 0 = .ok (.iload_n 1, 1) := by decide +kernel
theorem dX12_revoke_1 : decode cX12_revoke 1 = .ok (.iconst 3, 1) := by decide +kernel
theorem dX12_revoke_2 : decode cX12_revoke 2 = .ok (.irem, 1) := by decide +kernel
theorem dX12_revoke_3 : decode cX12_revoke 3 = .ok (.istore_n 2, 1) := by decide +kernel
theorem dX12_revoke_4 : decode cX12_revoke 4 = .ok (.aload_n 0, 1) := by decide +kernel
theorem dX12_revoke_5 : decode cX12_revoke 5 = .ok (.getfield 7, 3) := by decide +kernel
theorem dX12_revoke_8 : decode cX12_revoke 8 = .ok (.sipush 225, 3) := by decide +kernel
theorem dX12_revoke_11 : decode cX12_revoke 11 = .ok (.iload_n 2, 1) := by decide +kernel
theorem dX12_revoke_12 : decode cX12_revoke 12 = .ok (.iadd, 1) := by decide +kernel
theorem dX12_revoke_13 : decode cX12_revoke 13 = .ok (.dup2, 1) := by decide +kernel
theorem dX12_revoke_14 : decode cX12_revoke 14 = .ok (.iaload, 1) := by decide +kernel
theorem dX12_revoke_15 : decode cX12_revoke 15 = .ok (.iconst 1, 1) := by decide +kernel
theorem dX12_revoke_16 : decode cX12_revoke 16 = .ok (.iadd, 1) := by decide +kernel
theorem dX12_revoke_17 : decode cX12_revoke 17 = .ok (.iastore, 1) := by decide +kernel
theorem dX12_revoke_18 : decode cX12_revoke 18 = .ok (.aload_n 0, 1) := by decide +kernel
theorem dX12_revoke_19 : decode cX12_revoke 19 = .ok (.getfield 7, 3) := by decide +kernel
theorem dX12_revoke_22 : decode cX12_revoke 22 = .ok (.sipush 232, 3) := by decide +kernel
theorem dX12_revoke_25 : decode cX12_revoke 25 = .ok (.dup2, 1) := by decide +kernel
theorem dX12_revoke_26 : decode cX12_revoke 26 = .ok (.iaload, 1) := by decide +kernel
theorem dX12_revoke_27 : decode cX12_revoke 27 = .ok (.iconst 1, 1) := by decide +kernel
theorem dX12_revoke_28 : decode cX12_revoke 28 = .ok (.iadd, 1) := by decide +kernel
theorem dX12_revoke_29 : decode cX12_revoke 29 = .ok (.iastore, 1) := by decide +kernel
theorem dX12_revoke_30 : decode cX12_revoke 30 = .ok (.aload_n 0, 1) := by decide +kernel
theorem dX12_revoke_31 : decode cX12_revoke 31 = .ok (.getfield 7, 3) := by decide +kernel
theorem dX12_revoke_34 : decode cX12_revoke 34 = .ok (.sipush 225, 3) := by decide +kernel
theorem dX12_revoke_37 : decode cX12_revoke 37 = .ok (.iload_n 2, 1) := by decide +kernel
theorem dX12_revoke_38 : decode cX12_revoke 38 = .ok (.iadd, 1) := by decide +kernel
theorem dX12_revoke_39 : decode cX12_revoke 39 = .ok (.iaload, 1) := by decide +kernel
theorem dX12_revoke_40 : decode cX12_revoke 40 = .ok (.aload_n 0, 1) := by decide +kernel
theorem dX12_revoke_41 : decode cX12_revoke 41 = .ok (.getfield 7, 3) := by decide +kernel
theorem dX12_revoke_44 : decode cX12_revoke 44 = .ok (.iconst 4, 1) := by decide +kernel
theorem dX12_revoke_45 : decode cX12_revoke 45 = .ok (.iaload, 1) := by decide +kernel
theorem dX12_revoke_46 : decode cX12_revoke 46 = .ok (.if_icmp .lt 62, 3) := by decide +kernel
theorem dX12_revoke_49 : decode cX12_revoke 49 = .ok (.aload_n 0, 1) := by decide +kernel
theorem dX12_revoke_50 : decode cX12_revoke 50 = .ok (.getfield 7, 3) := by decide +kernel
theorem dX12_revoke_53 : decode cX12_revoke 53 = .ok (.sipush 228, 3) := by decide +kernel
theorem dX12_revoke_56 : decode cX12_revoke 56 = .ok (.iload_n 2, 1) := by decide +kernel
theorem dX12_revoke_57 : decode cX12_revoke 57 = .ok (.iadd, 1) := by decide +kernel
theorem dX12_revoke_58 : decode cX12_revoke 58 = .ok (.iconst 0, 1) := by decide +kernel
theorem dX12_revoke_59 : decode cX12_revoke 59 = .ok (.iastore, 1) := by decide +kernel
theorem dX12_revoke_60 : decode cX12_revoke 60 = .ok (.iload_n 2, 1) := by decide +kernel
theorem dX12_revoke_61 : decode cX12_revoke 61 = .ok (.istore_n 3, 1) := by decide +kernel
theorem dX12_revoke_62 : decode cX12_revoke 62 = .ok (.iload_n 3, 1) := by decide +kernel
theorem dX12_revoke_63 : decode cX12_revoke 63 = .ok (.bipush 8, 2) := by decide +kernel
theorem dX12_revoke_65 : decode cX12_revoke 65 = .ok (.if_icmp .ge 40, 3) := by decide +kernel
theorem dX12_revoke_68 : decode cX12_revoke 68 = .ok (.aload_n 0, 1) := by decide +kernel
theorem dX12_revoke_69 : decode cX12_revoke 69 = .ok (.getfield 7, 3) := by decide +kernel
theorem dX12_revoke_72 : decode cX12_revoke 72 = .ok (.bipush 46, 2) := by decide +kernel
theorem dX12_revoke_74 : decode cX12_revoke 74 = .ok (.iload_n 3, 1) := by decide +kernel
theorem dX12_revoke_75 : decode cX12_revoke 75 = .ok (.iadd, 1) := by decide +kernel
theorem dX12_revoke_76 : decode cX12_revoke 76 = .ok (.iaload, 1) := by decide +kernel
theorem dX12_revoke_77 : decode cX12_revoke 77 = .ok (.iconst 1, 1) := by decide +kernel
theorem dX12_revoke_78 : decode cX12_revoke 78 = .ok (.if_icmp .eq 16, 3) := by decide +kernel
theorem dX12_revoke_81 : decode cX12_revoke 81 = .ok (.aload_n 0, 1) := by decide +kernel
theorem dX12_revoke_82 : decode cX12_revoke 82 = .ok (.getfield 7, 3) := by decide +kernel
theorem dX12_revoke_85 : decode cX12_revoke 85 = .ok (.bipush 46, 2) := by decide +kernel
theorem dX12_revoke_87 : decode cX12_revoke 87 = .ok (.iload_n 3, 1) := by decide +kernel
theorem dX12_revoke_88 : decode cX12_revoke 88 = .ok (.iadd, 1) := by decide +kernel
theorem dX12_revoke_89 : decode cX12_revoke 89 = .ok (.iaload, 1) := by decide +kernel
theorem dX12_revoke_90 : decode cX12_revoke 90 = .ok (.iconst 2, 1) := by decide +kernel
theorem dX12_revoke_91 : decode cX12_revoke 91 = .ok (.if_icmp .ne 8, 3) := by decide +kernel
theorem dX12_revoke_94 : decode cX12_revoke 94 = .ok (.aload_n 0, 1) := by decide +kernel
theorem dX12_revoke_95 : decode cX12_revoke 95 = .ok (.iload_n 3, 1) := by decide +kernel
theorem dX12_revoke_96 : decode cX12_revoke 96 = .ok (.invokevirtual 81, 3) := by decide +kernel
theorem dX12_revoke_99 : decode cX12_revoke 99 = .ok (.iinc 3 3, 3) := by decide +kernel
theorem dX12_revoke_102 : decode cX12_revoke 102 = .ok (.goto (-40), 3) := by decide +kernel
theorem dX12_revoke_105 : decode cX12_revoke 105 = .ok (.goto 111, 3) := by decide +kernel
theorem dX12_revoke_108 : decode cX12_revoke 108 = .ok (.aload_n 0, 1) := by decide +kernel
theorem dX12_revoke_109 : decode cX12_revoke 109 = .ok (.getfield 7, 3) := by decide +kernel
theorem dX12_revoke_112 : decode cX12_revoke 112 = .ok (.sipush 225, 3) := by decide +kernel
theorem dX12_revoke_115 : decode cX12_revoke 115 = .ok (.iload_n 2, 1) := by decide +kernel
theorem dX12_revoke_116 : decode cX12_revoke 116 = .ok (.iadd, 1) := by decide +kernel
theorem dX12_revoke_117 : decode cX12_revoke 117 = .ok (.iaload, 1) := by decide +kernel
theorem dX12_revoke_118 : decode cX12_revoke 118 = .ok (.aload_n 0, 1) := by decide +kernel
theorem dX12_revoke_119 : decode cX12_revoke 119 = .ok (.getfield 7, 3) := by decide +kernel
theorem dX12_revoke_122 : decode cX12_revoke 122 = .ok (.iconst 3, 1) := by decide +kernel
theorem dX12_revoke_123 : decode cX12_revoke 123 = .ok (.iaload, 1) := by decide +kernel
theorem dX12_revoke_124 : decode cX12_revoke 124 = .ok (.if_icmp .ne 87, 3) := by decide +kernel
theorem dX12_revoke_127 : decode cX12_revoke 127 = .ok (.aload_n 0, 1) := by decide +kernel
theorem dX12_revoke_128 : decode cX12_revoke 128 = .ok (.getfield 7, 3) := by decide +kernel
theorem dX12_revoke_131 : decode cX12_revoke 131 = .ok (.sipush 222, 3) := by decide +kernel
theorem dX12_revoke_134 : decode cX12_revoke 134 = .ok (.iload_n 2, 1) := by decide +kernel
theorem dX12_revoke_135 : decode cX12_revoke 135 = .ok (.iadd, 1) := by decide +kernel
theorem dX12_revoke_136 : decode cX12_revoke 136 = .ok (.dup2, 1) := by decide +kernel
theorem dX12_revoke_137 : decode cX12_revoke 137 = .ok (.iaload, 1) := by decide +kernel
theorem dX12_revoke_138 : decode cX12_revoke 138 = .ok (.iconst 1, 1) := by decide +kernel
theorem dX12_revoke_139 : decode cX12_revoke 139 = .ok (.iadd, 1) := by decide +kernel
theorem dX12_revoke_140 : decode cX12_revoke 140 = .ok (.iastore, 1) := by decide +kernel
theorem dX12_revoke_141 : decode cX12_revoke 141 = .ok (.iload_n 2, 1) := by decide +kernel
theorem dX12_revoke_142 : decode cX12_revoke 142 = .ok (.istore_n 3, 1) := by decide +kernel
theorem dX12_revoke_143 : decode cX12_revoke 143 = .ok (.iload_n 3, 1) := by decide +kernel
theorem dX12_revoke_144 : decode cX12_revoke 144 = .ok (.bipush 8, 2) := by decide +kernel
theorem dX12_revoke_146 : decode cX12_revoke 146 = .ok (.if_icmp .ge 49, 3) := by decide +kernel
theorem dX12_revoke_149 : decode cX12_revoke 149 = .ok (.aload_n 0, 1) := by decide +kernel
theorem dX12_revoke_150 : decode cX12_revoke 150 = .ok (.getfield 7, 3) := by decide +kernel
theorem dX12_revoke_153 : decode cX12_revoke 153 = .ok (.bipush 46, 2) := by decide +kernel
theorem dX12_revoke_155 : decode cX12_revoke 155 = .ok (.iload_n 3, 1) := by decide +kernel
theorem dX12_revoke_156 : decode cX12_revoke 156 = .ok (.iadd, 1) := by decide +kernel
theorem dX12_revoke_157 : decode cX12_revoke 157 = .ok (.iaload, 1) := by decide +kernel
theorem dX12_revoke_158 : decode cX12_revoke 158 = .ok (.iconst 2, 1) := by decide +kernel
theorem dX12_revoke_159 : decode cX12_revoke 159 = .ok (.if_icmp .ne 30, 3) := by decide +kernel
theorem dX12_revoke_162 : decode cX12_revoke 162 = .ok (.aload_n 0, 1) := by decide +kernel
theorem dX12_revoke_163 : decode cX12_revoke 163 = .ok (.iload_n 3, 1) := by decide +kernel
theorem dX12_revoke_164 : decode cX12_revoke 164 = .ok (.invokevirtual 54, 3) := by decide +kernel
theorem dX12_revoke_167 : decode cX12_revoke 167 = .ok (.ifCond .eq 22, 3) := by decide +kernel
theorem dX12_revoke_170 : decode cX12_revoke 170 = .ok (.aload_n 0, 1) := by decide +kernel
theorem dX12_revoke_171 : decode cX12_revoke 171 = .ok (.getfield 7, 3) := by decide +kernel
theorem dX12_revoke_174 : decode cX12_revoke 174 = .ok (.bipush 78, 2) := by decide +kernel
theorem dX12_revoke_176 : decode cX12_revoke 176 = .ok (.iload_n 3, 1) := by decide +kernel
theorem dX12_revoke_177 : decode cX12_revoke 177 = .ok (.iadd, 1) := by decide +kernel
theorem dX12_revoke_178 : decode cX12_revoke 178 = .ok (.aload_n 0, 1) := by decide +kernel
theorem dX12_revoke_179 : decode cX12_revoke 179 = .ok (.getfield 7, 3) := by decide +kernel
theorem dX12_revoke_182 : decode cX12_revoke 182 = .ok (.sipush 222, 3) := by decide +kernel
theorem dX12_revoke_185 : decode cX12_revoke 185 = .ok (.iload_n 2, 1) := by decide +kernel
theorem dX12_revoke_186 : decode cX12_revoke 186 = .ok (.iadd, 1) := by decide +kernel
theorem dX12_revoke_187 : decode cX12_revoke 187 = .ok (.iaload, 1) := by decide +kernel
theorem dX12_revoke_188 : decode cX12_revoke 188 = .ok (.iastore, 1) := by decide +kernel
theorem dX12_revoke_189 : decode cX12_revoke 189 = .ok (.iinc 3 3, 3) := by decide +kernel
theorem dX12_revoke_192 : decode cX12_revoke 192 = .ok (.goto (-49), 3) := by decide +kernel
theorem dX12_revoke_195 : decode cX12_revoke 195 = .ok (.aload_n 0, 1) := by decide +kernel
theorem dX12_revoke_196 : decode cX12_revoke 196 = .ok (.iload_n 1, 1) := by decide +kernel
theorem dX12_revoke_197 : decode cX12_revoke 197 = .ok (.invokevirtual 54, 3) := by decide +kernel
theorem dX12_revoke_200 : decode cX12_revoke 200 = .ok (.ifCond .eq 16, 3) := by decide +kernel
theorem dX12_revoke_203 : decode cX12_revoke 203 = .ok (.aload_n 0, 1) := by decide +kernel
theorem dX12_revoke_204 : decode cX12_revoke 204 = .ok (.iload_n 1, 1) := by decide +kernel
theorem dX12_revoke_205 : decode cX12_revoke 205 = .ok (.invokevirtual 81, 3) := by decide +kernel
theorem dX12_revoke_208 : decode cX12_revoke 208 = .ok (.goto 8, 3) := by decide +kernel
theorem dX12_revoke_211 : decode cX12_revoke 211 = .ok (.aload_n 0, 1) := by decide +kernel
theorem dX12_revoke_212 : decode cX12_revoke 212 = .ok (.iload_n 1, 1) := by decide +kernel
theorem dX12_revoke_213 : decode cX12_revoke 213 = .ok (.invokevirtual 81, 3) := by decide +kernel
theorem dX12_revoke_216 : decode cX12_revoke 216 = .ok (.return_, 1) := by decide +kernel
theorem dX12_biased_0 : decode cX12_biased 0 = .ok (.aload_n 0, 1) := by decide +kernel
theorem dX12_biased_1 : decode cX12_biased 1 = .ok (.getfield 7, 3) := by decide +kernel
theorem dX12_biased_4 : decode cX12_biased 4 = .ok (.bipush 46, 2) := by decide +kernel
theorem dX12_biased_6 : decode cX12_biased 6 = .ok (.iload_n 2, 1) := by decide +kernel
theorem dX12_biased_7 : decode cX12_biased 7 = .ok (.iadd, 1) := by decide +kernel
theorem dX12_biased_8 : decode cX12_biased 8 = .ok (.iconst 2, 1) := by decide +kernel
theorem dX12_biased_9 : decode cX12_biased 9 = .ok (.iastore, 1) := by decide +kernel
theorem dX12_biased_10 : decode cX12_biased 10 = .ok (.aload_n 0, 1) := by decide +kernel
theorem dX12_biased_11 : decode cX12_biased 11 = .ok (.getfield 7, 3) := by decide +kernel
theorem dX12_biased_14 : decode cX12_biased 14 = .ok (.bipush 70, 2) := by decide +kernel
theorem dX12_biased_16 : decode cX12_biased 16 = .ok (.iload_n 2, 1) := by decide +kernel
theorem dX12_biased_17 : decode cX12_biased 17 = .ok (.iadd, 1) := by decide +kernel
theorem dX12_biased_18 : decode cX12_biased 18 = .ok (.iload_n 1, 1) := by decide +kernel
theorem dX12_biased_19 : decode cX12_biased 19 = .ok (.iastore, 1) := by decide +kernel
theorem dX12_biased_20 : decode cX12_biased 20 = .ok (.aload_n 0, 1) := by decide +kernel
theorem dX12_biased_21 : decode cX12_biased 21 = .ok (.getfield 7, 3) := by decide +kernel
theorem dX12_biased_24 : decode cX12_biased 24 = .ok (.bipush 78, 2) := by decide +kernel
theorem dX12_biased_26 : decode cX12_biased 26 = .ok (.iload_n 2, 1) := by decide +kernel
theorem dX12_biased_27 : decode cX12_biased 27 = .ok (.iadd, 1) := by decide +kernel
theorem dX12_biased_28 : decode cX12_biased 28 = .ok (.aload_n 0, 1) := by decide +kernel
theorem dX12_biased_29 : decode cX12_biased 29 = .ok (.getfield 7, 3) := by decide +kernel
theorem dX12_biased_32 : decode cX12_biased 32 = .ok (.sipush 222, 3) := by decide +kernel
theorem dX12_biased_35 : decode cX12_biased 35 = .ok (.iload_n 2, 1) := by decide +kernel
theorem dX12_biased_36 : decode cX12_biased 36 = .ok (.iconst 3, 1) := by decide +kernel
theorem dX12_biased_37 : decode cX12_biased 37 = .ok (.irem, 1) := by decide +kernel
theorem dX12_biased_38 : decode cX12_biased 38 = .ok (.iadd, 1) := by decide +kernel
theorem dX12_biased_39 : decode cX12_biased 39 = .ok (.iaload, 1) := by decide +kernel
theorem dX12_biased_40 : decode cX12_biased 40 = .ok (.iastore, 1) := by decide +kernel
theorem dX12_biased_41 : decode cX12_biased 41 = .ok (.aload_n 0, 1) := by decide +kernel
theorem dX12_biased_42 : decode cX12_biased 42 = .ok (.getfield 7, 3) := by decide +kernel
theorem dX12_biased_45 : decode cX12_biased 45 = .ok (.sipush 231, 3) := by decide +kernel
theorem dX12_biased_48 : decode cX12_biased 48 = .ok (.dup2, 1) := by decide +kernel
theorem dX12_biased_49 : decode cX12_biased 49 = .ok (.iaload, 1) := by decide +kernel
theorem dX12_biased_50 : decode cX12_biased 50 = .ok (.iload_n 3, 1) := by decide +kernel
theorem dX12_biased_51 : decode cX12_biased 51 = .ok (.ifCond .eq 7, 3) := by decide +kernel
theorem dX12_biased_54 : decode cX12_biased 54 = .ok (.iconst 1, 1) := by decide +kernel
theorem dX12_biased_55 : decode cX12_biased 55 = .ok (.goto 4, 3) := by decide +kernel
theorem dX12_biased_58 : decode cX12_biased 58 = .ok (.iconst 0, 1) := by decide +kernel
theorem dX12_biased_59 : decode cX12_biased 59 = .ok (.iadd, 1) := by decide +kernel
theorem dX12_biased_60 : decode cX12_biased 60 = .ok (.iastore, 1) := by decide +kernel
theorem dX12_biased_61 : decode cX12_biased 61 = .ok (.aload_n 0, 1) := by decide +kernel
theorem dX12_biased_62 : decode cX12_biased 62 = .ok (.iload_n 1, 1) := by decide +kernel
theorem dX12_biased_63 : decode cX12_biased 63 = .ok (.iload_n 2, 1) := by decide +kernel
theorem dX12_biased_64 : decode cX12_biased 64 = .ok (.iconst 1, 1) := by decide +kernel
theorem dX12_biased_65 : decode cX12_biased 65 = .ok (.invokevirtual 75, 3) := by decide +kernel
theorem dX12_biased_68 : decode cX12_biased 68 = .ok (.iconst 1, 1) := by decide +kernel
theorem dX12_biased_69 : decode cX12_biased 69 = .ok (.ireturn, 1) := by decide +kernel
theorem dX12_entered_0 : decode cX12_entered 0 = .ok (.aload_n 0, 1) := by decide +kernel
theorem dX12_entered_1 : decode cX12_entered 1 = .ok (.getfield 7, 3) := by decide +kernel
theorem dX12_entered_4 : decode cX12_entered 4 = .ok (.bipush 46, 2) := by decide +kernel
theorem dX12_entered_6 : decode cX12_entered 6 = .ok (.iload_n 2, 1) := by decide +kernel
theorem dX12_entered_7 : decode cX12_entered 7 = .ok (.iadd, 1) := by decide +kernel
theorem dX12_entered_8 : decode cX12_entered 8 = .ok (.iaload, 1) := by decide +kernel
theorem dX12_entered_9 : decode cX12_entered 9 = .ok (.iconst 2, 1) := by decide +kernel
theorem dX12_entered_10 : decode cX12_entered 10 = .ok (.if_icmp .ne 27, 3) := by decide +kernel
theorem dX12_entered_13 : decode cX12_entered 13 = .ok (.aload_n 0, 1) := by decide +kernel
theorem dX12_entered_14 : decode cX12_entered 14 = .ok (.iload_n 2, 1) := by decide +kernel
theorem dX12_entered_15 : decode cX12_entered 15 = .ok (.invokevirtual 54, 3) := by decide +kernel
theorem dX12_entered_18 : decode cX12_entered 18 = .ok (.ifCond .ne 19, 3) := by decide +kernel
theorem dX12_entered_21 : decode cX12_entered 21 = .ok (.aload_n 0, 1) := by decide +kernel
theorem dX12_entered_22 : decode cX12_entered 22 = .ok (.iload_n 2, 1) := by decide +kernel
theorem dX12_entered_23 : decode cX12_entered 23 = .ok (.invokevirtual 84, 3) := by decide +kernel
theorem dX12_entered_26 : decode cX12_entered 26 = .ok (.ifCond .ne 11, 3) := by decide +kernel
theorem dX12_entered_29 : decode cX12_entered 29 = .ok (.aload_n 0, 1) := by decide +kernel
theorem dX12_entered_30 : decode cX12_entered 30 = .ok (.iload_n 1, 1) := by decide +kernel
theorem dX12_entered_31 : decode cX12_entered 31 = .ok (.iload_n 2, 1) := by decide +kernel
theorem dX12_entered_32 : decode cX12_entered 32 = .ok (.iconst 1, 1) := by decide +kernel
theorem dX12_entered_33 : decode cX12_entered 33 = .ok (.invokevirtual 87, 3) := by decide +kernel
theorem dX12_entered_36 : decode cX12_entered 36 = .ok (.ireturn, 1) := by decide +kernel
theorem dX12_entered_37 : decode cX12_entered 37 = .ok (.aload_n 0, 1) := by decide +kernel
theorem dX12_entered_38 : decode cX12_entered 38 = .ok (.getfield 7, 3) := by decide +kernel
theorem dX12_entered_41 : decode cX12_entered 41 = .ok (.bipush 46, 2) := by decide +kernel
theorem dX12_entered_43 : decode cX12_entered 43 = .ok (.iload_n 2, 1) := by decide +kernel
theorem dX12_entered_44 : decode cX12_entered 44 = .ok (.iadd, 1) := by decide +kernel
theorem dX12_entered_45 : decode cX12_entered 45 = .ok (.iaload, 1) := by decide +kernel
theorem dX12_entered_46 : decode cX12_entered 46 = .ok (.ifCond .ne 34, 3) := by decide +kernel
theorem dX12_entered_49 : decode cX12_entered 49 = .ok (.aload_n 0, 1) := by decide +kernel
theorem dX12_entered_50 : decode cX12_entered 50 = .ok (.getfield 7, 3) := by decide +kernel
theorem dX12_entered_53 : decode cX12_entered 53 = .ok (.bipush 46, 2) := by decide +kernel
theorem dX12_entered_55 : decode cX12_entered 55 = .ok (.iload_n 2, 1) := by decide +kernel
theorem dX12_entered_56 : decode cX12_entered 56 = .ok (.iadd, 1) := by decide +kernel
theorem dX12_entered_57 : decode cX12_entered 57 = .ok (.iconst 3, 1) := by decide +kernel
theorem dX12_entered_58 : decode cX12_entered 58 = .ok (.iastore, 1) := by decide +kernel
theorem dX12_entered_59 : decode cX12_entered 59 = .ok (.aload_n 0, 1) := by decide +kernel
theorem dX12_entered_60 : decode cX12_entered 60 = .ok (.getfield 7, 3) := by decide +kernel
theorem dX12_entered_63 : decode cX12_entered 63 = .ok (.sipush 231, 3) := by decide +kernel
theorem dX12_entered_66 : decode cX12_entered 66 = .ok (.dup2, 1) := by decide +kernel
theorem dX12_entered_67 : decode cX12_entered 67 = .ok (.iaload, 1) := by decide +kernel
theorem dX12_entered_68 : decode cX12_entered 68 = .ok (.iconst 1, 1) := by decide +kernel
theorem dX12_entered_69 : decode cX12_entered 69 = .ok (.iadd, 1) := by decide +kernel
theorem dX12_entered_70 : decode cX12_entered 70 = .ok (.iastore, 1) := by decide +kernel
theorem dX12_entered_71 : decode cX12_entered 71 = .ok (.aload_n 0, 1) := by decide +kernel
theorem dX12_entered_72 : decode cX12_entered 72 = .ok (.iload_n 1, 1) := by decide +kernel
theorem dX12_entered_73 : decode cX12_entered 73 = .ok (.iload_n 2, 1) := by decide +kernel
theorem dX12_entered_74 : decode cX12_entered 74 = .ok (.iconst 1, 1) := by decide +kernel
theorem dX12_entered_75 : decode cX12_entered 75 = .ok (.invokevirtual 75, 3) := by decide +kernel
theorem dX12_entered_78 : decode cX12_entered 78 = .ok (.iconst 2, 1) := by decide +kernel
theorem dX12_entered_79 : decode cX12_entered 79 = .ok (.ireturn, 1) := by decide +kernel
theorem dX12_entered_80 : decode cX12_entered 80 = .ok (.aload_n 0, 1) := by decide +kernel
theorem dX12_entered_81 : decode cX12_entered 81 = .ok (.getfield 7, 3) := by decide +kernel
theorem dX12_entered_84 : decode cX12_entered 84 = .ok (.bipush 46, 2) := by decide +kernel
theorem dX12_entered_86 : decode cX12_entered 86 = .ok (.iload_n 2, 1) := by decide +kernel
theorem dX12_entered_87 : decode cX12_entered 87 = .ok (.iadd, 1) := by decide +kernel
theorem dX12_entered_88 : decode cX12_entered 88 = .ok (.iaload, 1) := by decide +kernel
theorem dX12_entered_89 : decode cX12_entered 89 = .ok (.iconst 4, 1) := by decide +kernel
theorem dX12_entered_90 : decode cX12_entered 90 = .ok (.if_icmp .ne 60, 3) := by decide +kernel
theorem dX12_entered_93 : decode cX12_entered 93 = .ok (.aload_n 0, 1) := by decide +kernel
theorem dX12_entered_94 : decode cX12_entered 94 = .ok (.iload_n 2, 1) := by decide +kernel
theorem dX12_entered_95 : decode cX12_entered 95 = .ok (.invokevirtual 54, 3) := by decide +kernel
theorem dX12_entered_98 : decode cX12_entered 98 = .ok (.ifCond .ne 52, 3) := by decide +kernel
theorem dX12_entered_101 : decode cX12_entered 101 = .ok (.aload_n 0, 1) := by decide +kernel
theorem dX12_entered_102 : decode cX12_entered 102 = .ok (.getfield 7, 3) := by decide +kernel
theorem dX12_entered_105 : decode cX12_entered 105 = .ok (.sipush 231, 3) := by decide +kernel
theorem dX12_entered_108 : decode cX12_entered 108 = .ok (.dup2, 1) := by decide +kernel
theorem dX12_entered_109 : decode cX12_entered 109 = .ok (.iaload, 1) := by decide +kernel
theorem dX12_entered_110 : decode cX12_entered 110 = .ok (.iconst 1, 1) := by decide +kernel
theorem dX12_entered_111 : decode cX12_entered 111 = .ok (.iadd, 1) := by decide +kernel
theorem dX12_entered_112 : decode cX12_entered 112 = .ok (.iastore, 1) := by decide +kernel
theorem dX12_entered_113 : decode cX12_entered 113 = .ok (.aload_n 0, 1) := by decide +kernel
theorem dX12_entered_114 : decode cX12_entered 114 = .ok (.getfield 7, 3) := by decide +kernel
theorem dX12_entered_117 : decode cX12_entered 117 = .ok (.sipush 238, 3) := by decide +kernel
theorem dX12_entered_120 : decode cX12_entered 120 = .ok (.dup2, 1) := by decide +kernel
theorem dX12_entered_121 : decode cX12_entered 121 = .ok (.iaload, 1) := by decide +kernel
theorem dX12_entered_122 : decode cX12_entered 122 = .ok (.aload_n 0, 1) := by decide +kernel
theorem dX12_entered_123 : decode cX12_entered 123 = .ok (.getfield 7, 3) := by decide +kernel
theorem dX12_entered_126 : decode cX12_entered 126 = .ok (.bipush 110, 2) := by decide +kernel
theorem dX12_entered_128 : decode cX12_entered 128 = .ok (.iload_n 2, 1) := by decide +kernel
theorem dX12_entered_129 : decode cX12_entered 129 = .ok (.iadd, 1) := by decide +kernel
theorem dX12_entered_130 : decode cX12_entered 130 = .ok (.iaload, 1) := by decide +kernel
theorem dX12_entered_131 : decode cX12_entered 131 = .ok (.ifCond .le 7, 3) := by decide +kernel
theorem dX12_entered_134 : decode cX12_entered 134 = .ok (.iconst 1, 1) := by decide +kernel
theorem dX12_entered_135 : decode cX12_entered 135 = .ok (.goto 4, 3) := by decide +kernel
theorem dX12_entered_138 : decode cX12_entered 138 = .ok (.iconst 0, 1) := by decide +kernel
theorem dX12_entered_139 : decode cX12_entered 139 = .ok (.iadd, 1) := by decide +kernel
theorem dX12_entered_140 : decode cX12_entered 140 = .ok (.iastore, 1) := by decide +kernel
theorem dX12_entered_141 : decode cX12_entered 141 = .ok (.aload_n 0, 1) := by decide +kernel
theorem dX12_entered_142 : decode cX12_entered 142 = .ok (.iload_n 1, 1) := by decide +kernel
theorem dX12_entered_143 : decode cX12_entered 143 = .ok (.iload_n 2, 1) := by decide +kernel
theorem dX12_entered_144 : decode cX12_entered 144 = .ok (.iconst 1, 1) := by decide +kernel
theorem dX12_entered_145 : decode cX12_entered 145 = .ok (.invokevirtual 75, 3) := by decide +kernel
theorem dX12_entered_148 : decode cX12_entered 148 = .ok (.iconst 3, 1) := by decide +kernel
theorem dX12_entered_149 : decode cX12_entered 149 = .ok (.ireturn, 1) := by decide +kernel
theorem dX12_entered_150 : decode cX12_entered 150 = .ok (.aload_n 0, 1) := by decide +kernel
theorem dX12_entered_151 : decode cX12_entered 151 = .ok (.getfield 7, 3) := by decide +kernel
theorem dX12_entered_154 : decode cX12_entered 154 = .ok (.bipush 46, 2) := by decide +kernel
theorem dX12_entered_156 : decode cX12_entered 156 = .ok (.iload_n 2, 1) := by decide +kernel
theorem dX12_entered_157 : decode cX12_entered 157 = .ok (.iadd, 1) := by decide +kernel
theorem dX12_entered_158 : decode cX12_entered 158 = .ok (.iaload, 1) := by decide +kernel
theorem dX12_entered_159 : decode cX12_entered 159 = .ok (.iconst 3, 1) := by decide +kernel
theorem dX12_entered_160 : decode cX12_entered 160 = .ok (.if_icmp .ne 14, 3) := by decide +kernel
theorem dX12_entered_163 : decode cX12_entered 163 = .ok (.aload_n 0, 1) := by decide +kernel
theorem dX12_entered_164 : decode cX12_entered 164 = .ok (.iload_n 2, 1) := by decide +kernel
theorem dX12_entered_165 : decode cX12_entered 165 = .ok (.invokevirtual 91, 3) := by decide +kernel
theorem dX12_entered_168 : decode cX12_entered 168 = .ok (.ifCond .ne 6, 3) := by decide +kernel
theorem dX12_entered_171 : decode cX12_entered 171 = .ok (.bipush (-6), 2) := by decide +kernel
theorem dX12_entered_173 : decode cX12_entered 173 = .ok (.ireturn, 1) := by decide +kernel
theorem dX12_entered_174 : decode cX12_entered 174 = .ok (.aload_n 0, 1) := by decide +kernel
theorem dX12_entered_175 : decode cX12_entered 175 = .ok (.getfield 7, 3) := by decide +kernel
theorem dX12_entered_178 : decode cX12_entered 178 = .ok (.sipush 235, 3) := by decide +kernel
theorem dX12_entered_181 : decode cX12_entered 181 = .ok (.dup2, 1) := by decide +kernel
theorem dX12_entered_182 : decode cX12_entered 182 = .ok (.iaload, 1) := by decide +kernel
theorem dX12_entered_183 : decode cX12_entered 183 = .ok (.iconst 1, 1) := by decide +kernel
theorem dX12_entered_184 : decode cX12_entered 184 = .ok (.iadd, 1) := by decide +kernel
theorem dX12_entered_185 : decode cX12_entered 185 = .ok (.iastore, 1) := by decide +kernel
theorem dX12_entered_186 : decode cX12_entered 186 = .ok (.aload_n 0, 1) := by decide +kernel
theorem dX12_entered_187 : decode cX12_entered 187 = .ok (.getfield 7, 3) := by decide +kernel
theorem dX12_entered_190 : decode cX12_entered 190 = .ok (.bipush 40, 2) := by decide +kernel
theorem dX12_entered_192 : decode cX12_entered 192 = .ok (.iload_n 1, 1) := by decide +kernel
theorem dX12_entered_193 : decode cX12_entered 193 = .ok (.iadd, 1) := by decide +kernel
theorem dX12_entered_194 : decode cX12_entered 194 = .ok (.iconst 1, 1) := by decide +kernel
theorem dX12_entered_195 : decode cX12_entered 195 = .ok (.iastore, 1) := by decide +kernel
theorem dX12_entered_196 : decode cX12_entered 196 = .ok (.aload_n 0, 1) := by decide +kernel
theorem dX12_entered_197 : decode cX12_entered 197 = .ok (.iload_n 1, 1) := by decide +kernel
theorem dX12_entered_198 : decode cX12_entered 198 = .ok (.iload_n 2, 1) := by decide +kernel
theorem dX12_entered_199 : decode cX12_entered 199 = .ok (.invokevirtual 72, 3) := by decide +kernel
theorem dX12_entered_202 : decode cX12_entered 202 = .ok (.iconst 0, 1) := by decide +kernel
theorem dX12_entered_203 : decode cX12_entered 203 = .ok (.ireturn, 1) := by decide +kernel
theorem dX12_entering_0 : decode cX12_entering 0 = .ok (.aload_n 0, 1) := by decide +kernel
theorem dX12_entering_1 : decode cX12_entering 1 = .ok (.iload_n 2, 1) := by decide +kernel
theorem dX12_entering_2 : decode cX12_entering 2 = .ok (.invokevirtual 54, 3) := by decide +kernel
theorem dX12_entering_5 : decode cX12_entering 5 = .ok (.ifCond .eq 73, 3) := by decide +kernel
theorem dX12_entering_8 : decode cX12_entering 8 = .ok (.aload_n 0, 1) := by decide +kernel
theorem dX12_entering_9 : decode cX12_entering 9 = .ok (.getfield 7, 3) := by decide +kernel
theorem dX12_entering_12 : decode cX12_entering 12 = .ok (.bipush 54, 2) := by decide +kernel
theorem dX12_entering_14 : decode cX12_entering 14 = .ok (.iload_n 2, 1) := by decide +kernel
theorem dX12_entering_15 : decode cX12_entering 15 = .ok (.iadd, 1) := by decide +kernel
theorem dX12_entering_16 : decode cX12_entering 16 = .ok (.iaload, 1) := by decide +kernel
theorem dX12_entering_17 : decode cX12_entering 17 = .ok (.iload_n 1, 1) := by decide +kernel
theorem dX12_entering_18 : decode cX12_entering 18 = .ok (.if_icmp .ne 60, 3) := by decide +kernel
theorem dX12_entering_21 : decode cX12_entering 21 = .ok (.aload_n 0, 1) := by decide +kernel
theorem dX12_entering_22 : decode cX12_entering 22 = .ok (.getfield 7, 3) := by decide +kernel
theorem dX12_entering_25 : decode cX12_entering 25 = .ok (.bipush 46, 2) := by decide +kernel
theorem dX12_entering_27 : decode cX12_entering 27 = .ok (.iload_n 2, 1) := by decide +kernel
theorem dX12_entering_28 : decode cX12_entering 28 = .ok (.iadd, 1) := by decide +kernel
theorem dX12_entering_29 : decode cX12_entering 29 = .ok (.iaload, 1) := by decide +kernel
theorem dX12_entering_30 : decode cX12_entering 30 = .ok (.iconst 3, 1) := by decide +kernel
theorem dX12_entering_31 : decode cX12_entering 31 = .ok (.if_icmp .ne 32, 3) := by decide +kernel
theorem dX12_entering_34 : decode cX12_entering 34 = .ok (.aload_n 0, 1) := by decide +kernel
theorem dX12_entering_35 : decode cX12_entering 35 = .ok (.getfield 7, 3) := by decide +kernel
theorem dX12_entering_38 : decode cX12_entering 38 = .ok (.bipush 62, 2) := by decide +kernel
theorem dX12_entering_40 : decode cX12_entering 40 = .ok (.iload_n 2, 1) := by decide +kernel
theorem dX12_entering_41 : decode cX12_entering 41 = .ok (.iadd, 1) := by decide +kernel
theorem dX12_entering_42 : decode cX12_entering 42 = .ok (.iaload, 1) := by decide +kernel
theorem dX12_entering_43 : decode cX12_entering 43 = .ok (.aload_n 0, 1) := by decide +kernel
theorem dX12_entering_44 : decode cX12_entering 44 = .ok (.getfield 7, 3) := by decide +kernel
theorem dX12_entering_47 : decode cX12_entering 47 = .ok (.iconst 5, 1) := by decide +kernel
theorem dX12_entering_48 : decode cX12_entering 48 = .ok (.iaload, 1) := by decide +kernel
theorem dX12_entering_49 : decode cX12_entering 49 = .ok (.if_icmp .lt 14, 3) := by decide +kernel
theorem dX12_entering_52 : decode cX12_entering 52 = .ok (.aload_n 0, 1) := by decide +kernel
theorem dX12_entering_53 : decode cX12_entering 53 = .ok (.iload_n 2, 1) := by decide +kernel
theorem dX12_entering_54 : decode cX12_entering 54 = .ok (.invokevirtual 91, 3) := by decide +kernel
theorem dX12_entering_57 : decode cX12_entering 57 = .ok (.ifCond .ne 6, 3) := by decide +kernel
theorem dX12_entering_60 : decode cX12_entering 60 = .ok (.bipush (-6), 2) := by decide +kernel
theorem dX12_entering_62 : decode cX12_entering 62 = .ok (.ireturn, 1) := by decide +kernel
theorem dX12_entering_63 : decode cX12_entering 63 = .ok (.aload_n 0, 1) := by decide +kernel
theorem dX12_entering_64 : decode cX12_entering 64 = .ok (.getfield 7, 3) := by decide +kernel
theorem dX12_entering_67 : decode cX12_entering 67 = .ok (.bipush 62, 2) := by decide +kernel
theorem dX12_entering_69 : decode cX12_entering 69 = .ok (.iload_n 2, 1) := by decide +kernel
theorem dX12_entering_70 : decode cX12_entering 70 = .ok (.iadd, 1) := by decide +kernel
theorem dX12_entering_71 : decode cX12_entering 71 = .ok (.dup2, 1) := by decide +kernel
theorem dX12_entering_72 : decode cX12_entering 72 = .ok (.iaload, 1) := by decide +kernel
theorem dX12_entering_73 : decode cX12_entering 73 = .ok (.iconst 1, 1) := by decide +kernel
theorem dX12_entering_74 : decode cX12_entering 74 = .ok (.iadd, 1) := by decide +kernel
theorem dX12_entering_75 : decode cX12_entering 75 = .ok (.iastore, 1) := by decide +kernel
theorem dX12_entering_76 : decode cX12_entering 76 = .ok (.iconst 4, 1) := by decide +kernel
theorem dX12_entering_77 : decode cX12_entering 77 = .ok (.ireturn, 1) := by decide +kernel
theorem dX12_entering_78 : decode cX12_entering 78 = .ok (.aload_n 0, 1) := by decide +kernel
theorem dX12_entering_79 : decode cX12_entering 79 = .ok (.getfield 7, 3) := by decide +kernel
theorem dX12_entering_82 : decode cX12_entering 82 = .ok (.bipush 46, 2) := by decide +kernel
theorem dX12_entering_84 : decode cX12_entering 84 = .ok (.iload_n 2, 1) := by decide +kernel
theorem dX12_entering_85 : decode cX12_entering 85 = .ok (.iadd, 1) := by decide +kernel
theorem dX12_entering_86 : decode cX12_entering 86 = .ok (.iaload, 1) := by decide +kernel
theorem dX12_entering_87 : decode cX12_entering 87 = .ok (.iconst 1, 1) := by decide +kernel
theorem dX12_entering_88 : decode cX12_entering 88 = .ok (.if_icmp .ne 11, 3) := by decide +kernel
theorem dX12_entering_91 : decode cX12_entering 91 = .ok (.aload_n 0, 1) := by decide +kernel
theorem dX12_entering_92 : decode cX12_entering 92 = .ok (.iload_n 1, 1) := by decide +kernel
theorem dX12_entering_93 : decode cX12_entering 93 = .ok (.iload_n 2, 1) := by decide +kernel
theorem dX12_entering_94 : decode cX12_entering 94 = .ok (.iconst 1, 1) := by decide +kernel
theorem dX12_entering_95 : decode cX12_entering 95 = .ok (.invokevirtual 87, 3) := by decide +kernel
theorem dX12_entering_98 : decode cX12_entering 98 = .ok (.ireturn, 1) := by decide +kernel
theorem dX12_entering_99 : decode cX12_entering 99 = .ok (.aload_n 0, 1) := by decide +kernel
theorem dX12_entering_100 : decode cX12_entering 100 = .ok (.getfield 7, 3) := by decide +kernel
theorem dX12_entering_103 : decode cX12_entering 103 = .ok (.bipush 46, 2) := by decide +kernel
theorem dX12_entering_105 : decode cX12_entering 105 = .ok (.iload_n 2, 1) := by decide +kernel
theorem dX12_entering_106 : decode cX12_entering 106 = .ok (.iadd, 1) := by decide +kernel
theorem dX12_entering_107 : decode cX12_entering 107 = .ok (.iaload, 1) := by decide +kernel
theorem dX12_entering_108 : decode cX12_entering 108 = .ok (.iconst 2, 1) := by decide +kernel
theorem dX12_entering_109 : decode cX12_entering 109 = .ok (.if_icmp .ne 40, 3) := by decide +kernel
theorem dX12_entering_112 : decode cX12_entering 112 = .ok (.aload_n 0, 1) := by decide +kernel
theorem dX12_entering_113 : decode cX12_entering 113 = .ok (.iload_n 2, 1) := by decide +kernel
theorem dX12_entering_114 : decode cX12_entering 114 = .ok (.invokevirtual 54, 3) := by decide +kernel
theorem dX12_entering_117 : decode cX12_entering 117 = .ok (.ifCond .ne 32, 3) := by decide +kernel
theorem dX12_entering_120 : decode cX12_entering 120 = .ok (.aload_n 0, 1) := by decide +kernel
theorem dX12_entering_121 : decode cX12_entering 121 = .ok (.getfield 7, 3) := by decide +kernel
theorem dX12_entering_124 : decode cX12_entering 124 = .ok (.bipush 70, 2) := by decide +kernel
theorem dX12_entering_126 : decode cX12_entering 126 = .ok (.iload_n 2, 1) := by decide +kernel
theorem dX12_entering_127 : decode cX12_entering 127 = .ok (.iadd, 1) := by decide +kernel
theorem dX12_entering_128 : decode cX12_entering 128 = .ok (.iaload, 1) := by decide +kernel
theorem dX12_entering_129 : decode cX12_entering 129 = .ok (.iload_n 1, 1) := by decide +kernel
theorem dX12_entering_130 : decode cX12_entering 130 = .ok (.if_icmp .ne 19, 3) := by decide +kernel
theorem dX12_entering_133 : decode cX12_entering 133 = .ok (.aload_n 0, 1) := by decide +kernel
theorem dX12_entering_134 : decode cX12_entering 134 = .ok (.iload_n 2, 1) := by decide +kernel
theorem dX12_entering_135 : decode cX12_entering 135 = .ok (.invokevirtual 84, 3) := by decide +kernel
theorem dX12_entering_138 : decode cX12_entering 138 = .ok (.ifCond .eq 11, 3) := by decide +kernel
theorem dX12_entering_141 : decode cX12_entering 141 = .ok (.aload_n 0, 1) := by decide +kernel
theorem dX12_entering_142 : decode cX12_entering 142 = .ok (.iload_n 1, 1) := by decide +kernel
theorem dX12_entering_143 : decode cX12_entering 143 = .ok (.iload_n 2, 1) := by decide +kernel
theorem dX12_entering_144 : decode cX12_entering 144 = .ok (.iconst 0, 1) := by decide +kernel
theorem dX12_entering_145 : decode cX12_entering 145 = .ok (.invokevirtual 87, 3) := by decide +kernel
theorem dX12_entering_148 : decode cX12_entering 148 = .ok (.ireturn, 1) := by decide +kernel
theorem dX12_entering_149 : decode cX12_entering 149 = .ok (.aload_n 0, 1) := by decide +kernel
theorem dX12_entering_150 : decode cX12_entering 150 = .ok (.getfield 7, 3) := by decide +kernel
theorem dX12_entering_153 : decode cX12_entering 153 = .ok (.bipush 46, 2) := by decide +kernel
theorem dX12_entering_155 : decode cX12_entering 155 = .ok (.iload_n 2, 1) := by decide +kernel
theorem dX12_entering_156 : decode cX12_entering 156 = .ok (.iadd, 1) := by decide +kernel
theorem dX12_entering_157 : decode cX12_entering 157 = .ok (.iaload, 1) := by decide +kernel
theorem dX12_entering_158 : decode cX12_entering 158 = .ok (.iconst 2, 1) := by decide +kernel
theorem dX12_entering_159 : decode cX12_entering 159 = .ok (.if_icmp .ne 16, 3) := by decide +kernel
theorem dX12_entering_162 : decode cX12_entering 162 = .ok (.aload_n 0, 1) := by decide +kernel
theorem dX12_entering_163 : decode cX12_entering 163 = .ok (.iload_n 2, 1) := by decide +kernel
theorem dX12_entering_164 : decode cX12_entering 164 = .ok (.invokevirtual 84, 3) := by decide +kernel
theorem dX12_entering_167 : decode cX12_entering 167 = .ok (.ifCond .eq 8, 3) := by decide +kernel
theorem dX12_entering_170 : decode cX12_entering 170 = .ok (.aload_n 0, 1) := by decide +kernel
theorem dX12_entering_171 : decode cX12_entering 171 = .ok (.iload_n 2, 1) := by decide +kernel
theorem dX12_entering_172 : decode cX12_entering 172 = .ok (.invokevirtual 94, 3) := by decide +kernel
theorem dX12_entering_175 : decode cX12_entering 175 = .ok (.aload_n 0, 1) := by decide +kernel
theorem dX12_entering_176 : decode cX12_entering 176 = .ok (.iload_n 1, 1) := by decide +kernel
theorem dX12_entering_177 : decode cX12_entering 177 = .ok (.iload_n 2, 1) := by decide +kernel
theorem dX12_entering_178 : decode cX12_entering 178 = .ok (.invokevirtual 97, 3) := by decide +kernel
theorem dX12_entering_181 : decode cX12_entering 181 = .ok (.ireturn, 1) := by decide +kernel
theorem dX12_enter_0 : decode cX12_enter 0 = .ok (.aload_n 0, 1) := by decide +kernel
theorem dX12_enter_1 : decode cX12_enter 1 = .ok (.iload_n 1, 1) := by decide +kernel
theorem dX12_enter_2 : decode cX12_enter 2 = .ok (.invokevirtual 101, 3) := by decide +kernel
theorem dX12_enter_5 : decode cX12_enter 5 = .ok (.ifCond .ne 5, 3) := by decide +kernel
theorem dX12_enter_8 : decode cX12_enter 8 = .ok (.iconst (-1), 1) := by decide +kernel
theorem dX12_enter_9 : decode cX12_enter 9 = .ok (.ireturn, 1) := by decide +kernel
theorem dX12_enter_10 : decode cX12_enter 10 = .ok (.iload_n 2, 1) := by decide +kernel
theorem dX12_enter_11 : decode cX12_enter 11 = .ok (.invokestatic 104, 3) := by decide +kernel
theorem dX12_enter_14 : decode cX12_enter 14 = .ok (.ifCond .ne 6, 3) := by decide +kernel
theorem dX12_enter_17 : decode cX12_enter 17 = .ok (.bipush (-2), 2) := by decide +kernel
theorem dX12_enter_19 : decode cX12_enter 19 = .ok (.ireturn, 1) := by decide +kernel
theorem dX12_enter_20 : decode cX12_enter 20 = .ok (.aload_n 0, 1) := by decide +kernel
theorem dX12_enter_21 : decode cX12_enter 21 = .ok (.getfield 7, 3) := by decide +kernel
theorem dX12_enter_24 : decode cX12_enter 24 = .ok (.bipush 10, 2) := by decide +kernel
theorem dX12_enter_26 : decode cX12_enter 26 = .ok (.iload_n 1, 1) := by decide +kernel
theorem dX12_enter_27 : decode cX12_enter 27 = .ok (.iadd, 1) := by decide +kernel
theorem dX12_enter_28 : decode cX12_enter 28 = .ok (.iaload, 1) := by decide +kernel
theorem dX12_enter_29 : decode cX12_enter 29 = .ok (.ifCond .eq 6, 3) := by decide +kernel
theorem dX12_enter_32 : decode cX12_enter 32 = .ok (.bipush (-4), 2) := by decide +kernel
theorem dX12_enter_34 : decode cX12_enter 34 = .ok (.ireturn, 1) := by decide +kernel
theorem dX12_enter_35 : decode cX12_enter 35 = .ok (.iconst 0, 1) := by decide +kernel
theorem dX12_enter_36 : decode cX12_enter 36 = .ok (.istore_n 3, 1) := by decide +kernel
theorem dX12_enter_37 : decode cX12_enter 37 = .ok (.iload_n 3, 1) := by decide +kernel
theorem dX12_enter_38 : decode cX12_enter 38 = .ok (.sipush 482, 3) := by decide +kernel
theorem dX12_enter_41 : decode cX12_enter 41 = .ok (.if_icmp .ge 21, 3) := by decide +kernel
theorem dX12_enter_44 : decode cX12_enter 44 = .ok (.aload_n 0, 1) := by decide +kernel
theorem dX12_enter_45 : decode cX12_enter 45 = .ok (.getfield 13, 3) := by decide +kernel
theorem dX12_enter_48 : decode cX12_enter 48 = .ok (.iload_n 3, 1) := by decide +kernel
theorem dX12_enter_49 : decode cX12_enter 49 = .ok (.aload_n 0, 1) := by decide +kernel
theorem dX12_enter_50 : decode cX12_enter 50 = .ok (.getfield 7, 3) := by decide +kernel
theorem dX12_enter_53 : decode cX12_enter 53 = .ok (.iload_n 3, 1) := by decide +kernel
theorem dX12_enter_54 : decode cX12_enter 54 = .ok (.iaload, 1) := by decide +kernel
theorem dX12_enter_55 : decode cX12_enter 55 = .ok (.iastore, 1) := by decide +kernel
theorem dX12_enter_56 : decode cX12_enter 56 = .ok (.iinc 3 1, 3) := by decide +kernel
theorem dX12_enter_59 : decode cX12_enter 59 = .ok (.goto (-22), 3) := by decide +kernel
theorem dX12_enter_62 : decode cX12_enter 62 = .ok (.aload_n 0, 1) := by decide +kernel
theorem dX12_enter_63 : decode cX12_enter 63 = .ok (.getfield 7, 3) := by decide +kernel
theorem dX12_enter_66 : decode cX12_enter 66 = .ok (.sipush 239, 3) := by decide +kernel
theorem dX12_enter_69 : decode cX12_enter 69 = .ok (.iaload, 1) := by decide +kernel
theorem dX12_enter_70 : decode cX12_enter 70 = .ok (.istore_n 3, 1) := by decide +kernel
theorem dX12_enter_71 : decode cX12_enter 71 = .ok (.aload_n 0, 1) := by decide +kernel
theorem dX12_enter_72 : decode cX12_enter 72 = .ok (.iload_n 1, 1) := by decide +kernel
theorem dX12_enter_73 : decode cX12_enter 73 = .ok (.iload_n 2, 1) := by decide +kernel
theorem dX12_enter_74 : decode cX12_enter 74 = .ok (.invokevirtual 107, 3) := by decide +kernel
theorem dX12_enter_77 : decode cX12_enter 77 = .ok (.istore 4, 2) := by decide +kernel
theorem dX12_enter_79 : decode cX12_enter 79 = .ok (.iload 4, 2) := by decide +kernel
theorem dX12_enter_81 : decode cX12_enter 81 = .ok (.bipush (-6), 2) := by decide +kernel
theorem dX12_enter_83 : decode cX12_enter 83 = .ok (.if_icmp .ne 37, 3) := by decide +kernel
theorem dX12_enter_86 : decode cX12_enter 86 = .ok (.iconst 0, 1) := by decide +kernel
theorem dX12_enter_87 : decode cX12_enter 87 = .ok (.istore 5, 2) := by decide +kernel
theorem dX12_enter_89 : decode cX12_enter 89 = .ok (.iload 5, 2) := by decide +kernel
theorem dX12_enter_91 : decode cX12_enter 91 = .ok (.sipush 482, 3) := by decide +kernel
theorem dX12_enter_94 : decode cX12_enter 94 = .ok (.if_icmp .ge 23, 3) := by decide +kernel
theorem dX12_enter_97 : decode cX12_enter 97 = .ok (.aload_n 0, 1) := by decide +kernel
theorem dX12_enter_98 : decode cX12_enter 98 = .ok (.getfield 7, 3) := by decide +kernel
theorem dX12_enter_101 : decode cX12_enter 101 = .ok (.iload 5, 2) := by decide +kernel
theorem dX12_enter_103 : decode cX12_enter 103 = .ok (.aload_n 0, 1) := by decide +kernel
theorem dX12_enter_104 : decode cX12_enter 104 = .ok (.getfield 13, 3) := by decide +kernel
theorem dX12_enter_107 : decode cX12_enter 107 = .ok (.iload 5, 2) := by decide +kernel
theorem dX12_enter_109 : decode cX12_enter 109 = .ok (.iaload, 1) := by decide +kernel
theorem dX12_enter_110 : decode cX12_enter 110 = .ok (.iastore, 1) := by decide +kernel
theorem dX12_enter_111 : decode cX12_enter 111 = .ok (.iinc 5 1, 3) := by decide +kernel
theorem dX12_enter_114 : decode cX12_enter 114 = .ok (.goto (-25), 3) := by decide +kernel
theorem dX12_enter_117 : decode cX12_enter 117 = .ok (.bipush (-6), 2) := by decide +kernel
theorem dX12_enter_119 : decode cX12_enter 119 = .ok (.ireturn, 1) := by decide +kernel
theorem dX12_enter_120 : decode cX12_enter 120 = .ok (.aload_n 0, 1) := by decide +kernel
theorem dX12_enter_121 : decode cX12_enter 121 = .ok (.iconst 0, 1) := by decide +kernel
theorem dX12_enter_122 : decode cX12_enter 122 = .ok (.iload_n 1, 1) := by decide +kernel
theorem dX12_enter_123 : decode cX12_enter 123 = .ok (.iload_n 2, 1) := by decide +kernel
theorem dX12_enter_124 : decode cX12_enter 124 = .ok (.iconst 0, 1) := by decide +kernel
theorem dX12_enter_125 : decode cX12_enter 125 = .ok (.invokevirtual 110, 3) := by decide +kernel
theorem dX12_enter_128 : decode cX12_enter 128 = .ok (.iload 4, 2) := by decide +kernel
theorem dX12_enter_130 : decode cX12_enter 130 = .ok (.aload_n 0, 1) := by decide +kernel
theorem dX12_enter_131 : decode cX12_enter 131 = .ok (.getfield 7, 3) := by decide +kernel
theorem dX12_enter_134 : decode cX12_enter 134 = .ok (.sipush 239, 3) := by decide +kernel
theorem dX12_enter_137 : decode cX12_enter 137 = .ok (.iaload, 1) := by decide +kernel
theorem dX12_enter_138 : decode cX12_enter 138 = .ok (.iload_n 3, 1) := by decide +kernel
theorem dX12_enter_139 : decode cX12_enter 139 = .ok (.if_icmp .le 8, 3) := by decide +kernel
theorem dX12_enter_142 : decode cX12_enter 142 = .ok (.bipush 10, 2) := by decide +kernel
theorem dX12_enter_144 : decode cX12_enter 144 = .ok (.goto 4, 3) := by decide +kernel
theorem dX12_enter_147 : decode cX12_enter 147 = .ok (.iconst 0, 1) := by decide +kernel
theorem dX12_enter_148 : decode cX12_enter 148 = .ok (.iadd, 1) := by decide +kernel
theorem dX12_enter_149 : decode cX12_enter 149 = .ok (.ireturn, 1) := by decide +kernel
theorem dX12_forbidden_0 : decode cX12_forbidden 0 = .ok (.aload_n 0, 1) := by decide +kernel
theorem dX12_forbidden_1 : decode cX12_forbidden 1 = .ok (.iload_n 1, 1) := by decide +kernel
theorem dX12_forbidden_2 : decode cX12_forbidden 2 = .ok (.invokevirtual 101, 3) := by decide +kernel
theorem dX12_forbidden_5 : decode cX12_forbidden 5 = .ok (.ifCond .ne 5, 3) := by decide +kernel
theorem dX12_forbidden_8 : decode cX12_forbidden 8 = .ok (.iconst (-1), 1) := by decide +kernel
theorem dX12_forbidden_9 : decode cX12_forbidden 9 = .ok (.ireturn, 1) := by decide +kernel
theorem dX12_forbidden_10 : decode cX12_forbidden 10 = .ok (.iload_n 2, 1) := by decide +kernel
theorem dX12_forbidden_11 : decode cX12_forbidden 11 = .ok (.invokestatic 104, 3) := by decide +kernel
theorem dX12_forbidden_14 : decode cX12_forbidden 14 = .ok (.ifCond .ne 6, 3) := by decide +kernel
theorem dX12_forbidden_17 : decode cX12_forbidden 17 = .ok (.bipush (-2), 2) := by decide +kernel
theorem dX12_forbidden_19 : decode cX12_forbidden 19 = .ok (.ireturn, 1) := by decide +kernel
theorem dX12_forbidden_20 : decode cX12_forbidden 20 = .ok (.aload_n 0, 1) := by decide +kernel
theorem dX12_forbidden_21 : decode cX12_forbidden 21 = .ok (.getfield 7, 3) := by decide +kernel
theorem dX12_forbidden_24 : decode cX12_forbidden 24 = .ok (.bipush 10, 2) := by decide +kernel
theorem dX12_forbidden_26 : decode cX12_forbidden 26 = .ok (.iload_n 1, 1) := by decide +kernel
theorem dX12_forbidden_27 : decode cX12_forbidden 27 = .ok (.iadd, 1) := by decide +kernel
theorem dX12_forbidden_28 : decode cX12_forbidden 28 = .ok (.iaload, 1) := by decide +kernel
theorem dX12_forbidden_29 : decode cX12_forbidden 29 = .ok (.ifCond .eq 6, 3) := by decide +kernel
theorem dX12_forbidden_32 : decode cX12_forbidden 32 = .ok (.bipush (-4), 2) := by decide +kernel
theorem dX12_forbidden_34 : decode cX12_forbidden 34 = .ok (.ireturn, 1) := by decide +kernel
theorem dX12_forbidden_35 : decode cX12_forbidden 35 = .ok (.aload_n 0, 1) := by decide +kernel
theorem dX12_forbidden_36 : decode cX12_forbidden 36 = .ok (.iload_n 2, 1) := by decide +kernel
theorem dX12_forbidden_37 : decode cX12_forbidden 37 = .ok (.invokevirtual 54, 3) := by decide +kernel
theorem dX12_forbidden_40 : decode cX12_forbidden 40 = .ok (.ifCond .eq 20, 3) := by decide +kernel
theorem dX12_forbidden_43 : decode cX12_forbidden 43 = .ok (.aload_n 0, 1) := by decide +kernel
theorem dX12_forbidden_44 : decode cX12_forbidden 44 = .ok (.getfield 7, 3) := by decide +kernel
theorem dX12_forbidden_47 : decode cX12_forbidden 47 = .ok (.bipush 54, 2) := by decide +kernel
theorem dX12_forbidden_49 : decode cX12_forbidden 49 = .ok (.iload_n 2, 1) := by decide +kernel
theorem dX12_forbidden_50 : decode cX12_forbidden 50 = .ok (.iadd, 1) := by decide +kernel
theorem dX12_forbidden_51 : decode cX12_forbidden 51 = .ok (.iaload, 1) := by decide +kernel
theorem dX12_forbidden_52 : decode cX12_forbidden 52 = .ok (.iload_n 1, 1) := by decide +kernel
theorem dX12_forbidden_53 : decode cX12_forbidden 53 = .ok (.if_icmp .ne 7, 3) := by decide +kernel
theorem dX12_forbidden_56 : decode cX12_forbidden 56 = .ok (.iconst 0, 1) := by decide +kernel
theorem dX12_forbidden_57 : decode cX12_forbidden 57 = .ok (.goto 5, 3) := by decide +kernel
theorem dX12_forbidden_60 : decode cX12_forbidden 60 = .ok (.bipush (-5), 2) := by decide +kernel
theorem dX12_forbidden_62 : decode cX12_forbidden 62 = .ok (.ireturn, 1) := by decide +kernel
theorem dX12_exit_0 : decode cX12_exit 0 = .ok (.aload_n 0, 1) := by decide +kernel
theorem dX12_exit_1 : decode cX12_exit 1 = .ok (.iload_n 1, 1) := by decide +kernel
theorem dX12_exit_2 : decode cX12_exit 2 = .ok (.iload_n 2, 1) := by decide +kernel
theorem dX12_exit_3 : decode cX12_exit 3 = .ok (.invokevirtual 114, 3) := by decide +kernel
theorem dX12_exit_6 : decode cX12_exit 6 = .ok (.istore_n 3, 1) := by decide +kernel
theorem dX12_exit_7 : decode cX12_exit 7 = .ok (.iload_n 3, 1) := by decide +kernel
theorem dX12_exit_8 : decode cX12_exit 8 = .ok (.ifCond .ge 5, 3) := by decide +kernel
theorem dX12_exit_11 : decode cX12_exit 11 = .ok (.iload_n 3, 1) := by decide +kernel
theorem dX12_exit_12 : decode cX12_exit 12 = .ok (.ireturn, 1) := by decide +kernel
theorem dX12_exit_13 : decode cX12_exit 13 = .ok (.aload_n 0, 1) := by decide +kernel
theorem dX12_exit_14 : decode cX12_exit 14 = .ok (.getfield 7, 3) := by decide +kernel
theorem dX12_exit_17 : decode cX12_exit 17 = .ok (.bipush 62, 2) := by decide +kernel
theorem dX12_exit_19 : decode cX12_exit 19 = .ok (.iload_n 2, 1) := by decide +kernel
theorem dX12_exit_20 : decode cX12_exit 20 = .ok (.iadd, 1) := by decide +kernel
theorem dX12_exit_21 : decode cX12_exit 21 = .ok (.dup2, 1) := by decide +kernel
theorem dX12_exit_22 : decode cX12_exit 22 = .ok (.iaload, 1) := by decide +kernel
theorem dX12_exit_23 : decode cX12_exit 23 = .ok (.iconst 1, 1) := by decide +kernel
theorem dX12_exit_24 : decode cX12_exit 24 = .ok (.isub, 1) := by decide +kernel
theorem dX12_exit_25 : decode cX12_exit 25 = .ok (.iastore, 1) := by decide +kernel
theorem dX12_exit_26 : decode cX12_exit 26 = .ok (.aload_n 0, 1) := by decide +kernel
theorem dX12_exit_27 : decode cX12_exit 27 = .ok (.getfield 7, 3) := by decide +kernel
theorem dX12_exit_30 : decode cX12_exit 30 = .ok (.bipush 62, 2) := by decide +kernel
theorem dX12_exit_32 : decode cX12_exit 32 = .ok (.iload_n 2, 1) := by decide +kernel
theorem dX12_exit_33 : decode cX12_exit 33 = .ok (.iadd, 1) := by decide +kernel
theorem dX12_exit_34 : decode cX12_exit 34 = .ok (.iaload, 1) := by decide +kernel
theorem dX12_exit_35 : decode cX12_exit 35 = .ok (.istore 4, 2) := by decide +kernel
theorem dX12_exit_37 : decode cX12_exit 37 = .ok (.iload 4, 2) := by decide +kernel
theorem dX12_exit_39 : decode cX12_exit 39 = .ok (.ifCond .ne 8, 3) := by decide +kernel
theorem dX12_exit_42 : decode cX12_exit 42 = .ok (.aload_n 0, 1) := by decide +kernel
theorem dX12_exit_43 : decode cX12_exit 43 = .ok (.iload_n 2, 1) := by decide +kernel
theorem dX12_exit_44 : decode cX12_exit 44 = .ok (.invokevirtual 117, 3) := by decide +kernel
theorem dX12_exit_47 : decode cX12_exit 47 = .ok (.aload_n 0, 1) := by decide +kernel
theorem dX12_exit_48 : decode cX12_exit 48 = .ok (.iconst 1, 1) := by decide +kernel
theorem dX12_exit_49 : decode cX12_exit 49 = .ok (.iload_n 1, 1) := by decide +kernel
theorem dX12_exit_50 : decode cX12_exit 50 = .ok (.iload_n 2, 1) := by decide +kernel
theorem dX12_exit_51 : decode cX12_exit 51 = .ok (.iconst 0, 1) := by decide +kernel
theorem dX12_exit_52 : decode cX12_exit 52 = .ok (.invokevirtual 110, 3) := by decide +kernel
theorem dX12_exit_55 : decode cX12_exit 55 = .ok (.iload 4, 2) := by decide +kernel
theorem dX12_exit_57 : decode cX12_exit 57 = .ok (.ireturn, 1) := by decide +kernel
theorem dX12_await_0 : decode cX12_await 0 = .ok (.aload_n 0, 1) := by decide +kernel
theorem dX12_await_1 : decode cX12_await 1 = .ok (.iload_n 1, 1) := by decide +kernel
theorem dX12_await_2 : decode cX12_await 2 = .ok (.invokevirtual 101, 3) := by decide +kernel
theorem dX12_await_5 : decode cX12_await 5 = .ok (.ifCond .ne 5, 3) := by decide +kernel
theorem dX12_await_8 : decode cX12_await 8 = .ok (.iconst (-1), 1) := by decide +kernel
theorem dX12_await_9 : decode cX12_await 9 = .ok (.ireturn, 1) := by decide +kernel
theorem dX12_await_10 : decode cX12_await 10 = .ok (.iload_n 2, 1) := by decide +kernel
theorem dX12_await_11 : decode cX12_await 11 = .ok (.invokestatic 104, 3) := by decide +kernel
theorem dX12_await_14 : decode cX12_await 14 = .ok (.ifCond .ne 6, 3) := by decide +kernel
theorem dX12_await_17 : decode cX12_await 17 = .ok (.bipush (-2), 2) := by decide +kernel
theorem dX12_await_19 : decode cX12_await 19 = .ok (.ireturn, 1) := by decide +kernel
theorem dX12_await_20 : decode cX12_await 20 = .ok (.iload_n 3, 1) := by decide +kernel
theorem dX12_await_21 : decode cX12_await 21 = .ok (.iconst 0, 1) := by decide +kernel
theorem dX12_await_22 : decode cX12_await 22 = .ok (.bipush 50, 2) := by decide +kernel
theorem dX12_await_24 : decode cX12_await 24 = .ok (.invokestatic 35, 3) := by decide +kernel
theorem dX12_await_27 : decode cX12_await 27 = .ok (.ifCond .ne 6, 3) := by decide +kernel
theorem dX12_await_30 : decode cX12_await 30 = .ok (.bipush (-3), 2) := by decide +kernel
theorem dX12_await_32 : decode cX12_await 32 = .ok (.ireturn, 1) := by decide +kernel
theorem dX12_await_33 : decode cX12_await 33 = .ok (.aload_n 0, 1) := by decide +kernel
theorem dX12_await_34 : decode cX12_await 34 = .ok (.iload_n 1, 1) := by decide +kernel
theorem dX12_await_35 : decode cX12_await 35 = .ok (.iload_n 2, 1) := by decide +kernel
theorem dX12_await_36 : decode cX12_await 36 = .ok (.invokevirtual 114, 3) := by decide +kernel
theorem dX12_await_39 : decode cX12_await 39 = .ok (.istore 4, 2) := by decide +kernel
theorem dX12_await_41 : decode cX12_await 41 = .ok (.iload 4, 2) := by decide +kernel
theorem dX12_await_43 : decode cX12_await 43 = .ok (.ifCond .ge 6, 3) := by decide +kernel
theorem dX12_await_46 : decode cX12_await 46 = .ok (.iload 4, 2) := by decide +kernel
theorem dX12_await_48 : decode cX12_await 48 = .ok (.ireturn, 1) := by decide +kernel
theorem dX12_await_49 : decode cX12_await 49 = .ok (.aload_n 0, 1) := by decide +kernel
theorem dX12_await_50 : decode cX12_await 50 = .ok (.getfield 7, 3) := by decide +kernel
theorem dX12_await_53 : decode cX12_await 53 = .ok (.bipush 16, 2) := by decide +kernel
theorem dX12_await_55 : decode cX12_await 55 = .ok (.iload_n 1, 1) := by decide +kernel
theorem dX12_await_56 : decode cX12_await 56 = .ok (.iadd, 1) := by decide +kernel
theorem dX12_await_57 : decode cX12_await 57 = .ok (.iaload, 1) := by decide +kernel
theorem dX12_await_58 : decode cX12_await 58 = .ok (.iconst 1, 1) := by decide +kernel
theorem dX12_await_59 : decode cX12_await 59 = .ok (.if_icmp .ne 34, 3) := by decide +kernel
theorem dX12_await_62 : decode cX12_await 62 = .ok (.aload_n 0, 1) := by decide +kernel
theorem dX12_await_63 : decode cX12_await 63 = .ok (.getfield 7, 3) := by decide +kernel
theorem dX12_await_66 : decode cX12_await 66 = .ok (.bipush 16, 2) := by decide +kernel
theorem dX12_await_68 : decode cX12_await 68 = .ok (.iload_n 1, 1) := by decide +kernel
theorem dX12_await_69 : decode cX12_await 69 = .ok (.iadd, 1) := by decide +kernel
theorem dX12_await_70 : decode cX12_await 70 = .ok (.iconst 0, 1) := by decide +kernel
theorem dX12_await_71 : decode cX12_await 71 = .ok (.iastore, 1) := by decide +kernel
theorem dX12_await_72 : decode cX12_await 72 = .ok (.aload_n 0, 1) := by decide +kernel
theorem dX12_await_73 : decode cX12_await 73 = .ok (.getfield 7, 3) := by decide +kernel
theorem dX12_await_76 : decode cX12_await 76 = .ok (.bipush 22, 2) := by decide +kernel
theorem dX12_await_78 : decode cX12_await 78 = .ok (.iload_n 1, 1) := by decide +kernel
theorem dX12_await_79 : decode cX12_await 79 = .ok (.iadd, 1) := by decide +kernel
theorem dX12_await_80 : decode cX12_await 80 = .ok (.iconst 3, 1) := by decide +kernel
theorem dX12_await_81 : decode cX12_await 81 = .ok (.iastore, 1) := by decide +kernel
theorem dX12_await_82 : decode cX12_await 82 = .ok (.aload_n 0, 1) := by decide +kernel
theorem dX12_await_83 : decode cX12_await 83 = .ok (.iconst 2, 1) := by decide +kernel
theorem dX12_await_84 : decode cX12_await 84 = .ok (.iload_n 1, 1) := by decide +kernel
theorem dX12_await_85 : decode cX12_await 85 = .ok (.iload_n 2, 1) := by decide +kernel
theorem dX12_await_86 : decode cX12_await 86 = .ok (.iload_n 3, 1) := by decide +kernel
theorem dX12_await_87 : decode cX12_await 87 = .ok (.invokevirtual 110, 3) := by decide +kernel
theorem dX12_await_90 : decode cX12_await 90 = .ok (.bipush (-9), 2) := by decide +kernel
theorem dX12_await_92 : decode cX12_await 92 = .ok (.ireturn, 1) := by decide +kernel
theorem dX12_await_93 : decode cX12_await 93 = .ok (.aload_n 0, 1) := by decide +kernel
theorem dX12_await_94 : decode cX12_await 94 = .ok (.getfield 7, 3) := by decide +kernel
theorem dX12_await_97 : decode cX12_await 97 = .ok (.bipush 46, 2) := by decide +kernel
theorem dX12_await_99 : decode cX12_await 99 = .ok (.iload_n 2, 1) := by decide +kernel
theorem dX12_await_100 : decode cX12_await 100 = .ok (.iadd, 1) := by decide +kernel
theorem dX12_await_101 : decode cX12_await 101 = .ok (.iaload, 1) := by decide +kernel
theorem dX12_await_102 : decode cX12_await 102 = .ok (.iconst 4, 1) := by decide +kernel
theorem dX12_await_103 : decode cX12_await 103 = .ok (.if_icmp .eq 14, 3) := by decide +kernel
theorem dX12_await_106 : decode cX12_await 106 = .ok (.aload_n 0, 1) := by decide +kernel
theorem dX12_await_107 : decode cX12_await 107 = .ok (.iload_n 2, 1) := by decide +kernel
theorem dX12_await_108 : decode cX12_await 108 = .ok (.invokevirtual 91, 3) := by decide +kernel
theorem dX12_await_111 : decode cX12_await 111 = .ok (.ifCond .ne 6, 3) := by decide +kernel
theorem dX12_await_114 : decode cX12_await 114 = .ok (.bipush (-6), 2) := by decide +kernel
theorem dX12_await_116 : decode cX12_await 116 = .ok (.ireturn, 1) := by decide +kernel
theorem dX12_await_117 : decode cX12_await 117 = .ok (.aload_n 0, 1) := by decide +kernel
theorem dX12_await_118 : decode cX12_await 118 = .ok (.getfield 7, 3) := by decide +kernel
theorem dX12_await_121 : decode cX12_await 121 = .ok (.bipush 62, 2) := by decide +kernel
theorem dX12_await_123 : decode cX12_await 123 = .ok (.iload_n 2, 1) := by decide +kernel
theorem dX12_await_124 : decode cX12_await 124 = .ok (.iadd, 1) := by decide +kernel
theorem dX12_await_125 : decode cX12_await 125 = .ok (.iaload, 1) := by decide +kernel
theorem dX12_await_126 : decode cX12_await 126 = .ok (.istore 5, 2) := by decide +kernel
theorem dX12_await_128 : decode cX12_await 128 = .ok (.aload_n 0, 1) := by decide +kernel
theorem dX12_await_129 : decode cX12_await 129 = .ok (.getfield 7, 3) := by decide +kernel
theorem dX12_await_132 : decode cX12_await 132 = .ok (.bipush 40, 2) := by decide +kernel
theorem dX12_await_134 : decode cX12_await 134 = .ok (.iload_n 1, 1) := by decide +kernel
theorem dX12_await_135 : decode cX12_await 135 = .ok (.iadd, 1) := by decide +kernel
theorem dX12_await_136 : decode cX12_await 136 = .ok (.iload 5, 2) := by decide +kernel
theorem dX12_await_138 : decode cX12_await 138 = .ok (.iastore, 1) := by decide +kernel
theorem dX12_await_139 : decode cX12_await 139 = .ok (.aload_n 0, 1) := by decide +kernel
theorem dX12_await_140 : decode cX12_await 140 = .ok (.getfield 7, 3) := by decide +kernel
theorem dX12_await_143 : decode cX12_await 143 = .ok (.bipush 34, 2) := by decide +kernel
theorem dX12_await_145 : decode cX12_await 145 = .ok (.iload_n 1, 1) := by decide +kernel
theorem dX12_await_146 : decode cX12_await 146 = .ok (.iadd, 1) := by decide +kernel
theorem dX12_await_147 : decode cX12_await 147 = .ok (.iload_n 3, 1) := by decide +kernel
theorem dX12_await_148 : decode cX12_await 148 = .ok (.ifCond .ne 7, 3) := by decide +kernel
theorem dX12_await_151 : decode cX12_await 151 = .ok (.iconst 0, 1) := by decide +kernel
theorem dX12_await_152 : decode cX12_await 152 = .ok (.goto 12, 3) := by decide +kernel
theorem dX12_await_155 : decode cX12_await 155 = .ok (.aload_n 0, 1) := by decide +kernel
theorem dX12_await_156 : decode cX12_await 156 = .ok (.getfield 7, 3) := by decide +kernel
theorem dX12_await_159 : decode cX12_await 159 = .ok (.bipush 9, 2) := by decide +kernel
theorem dX12_await_161 : decode cX12_await 161 = .ok (.iaload, 1) := by decide +kernel
theorem dX12_await_162 : decode cX12_await 162 = .ok (.iload_n 3, 1) := by decide +kernel
theorem dX12_await_163 : decode cX12_await 163 = .ok (.iadd, 1) := by decide +kernel
theorem dX12_await_164 : decode cX12_await 164 = .ok (.iastore, 1) := by decide +kernel
theorem dX12_await_165 : decode cX12_await 165 = .ok (.aload_n 0, 1) := by decide +kernel
theorem dX12_await_166 : decode cX12_await 166 = .ok (.getfield 7, 3) := by decide +kernel
theorem dX12_await_169 : decode cX12_await 169 = .ok (.bipush 10, 2) := by decide +kernel
theorem dX12_await_171 : decode cX12_await 171 = .ok (.iload_n 1, 1) := by decide +kernel
theorem dX12_await_172 : decode cX12_await 172 = .ok (.iadd, 1) := by decide +kernel
theorem dX12_await_173 : decode cX12_await 173 = .ok (.iconst 2, 1) := by decide +kernel
theorem dX12_await_174 : decode cX12_await 174 = .ok (.iastore, 1) := by decide +kernel
theorem dX12_await_175 : decode cX12_await 175 = .ok (.aload_n 0, 1) := by decide +kernel
theorem dX12_await_176 : decode cX12_await 176 = .ok (.getfield 7, 3) := by decide +kernel
theorem dX12_await_179 : decode cX12_await 179 = .ok (.bipush 28, 2) := by decide +kernel
theorem dX12_await_181 : decode cX12_await 181 = .ok (.iload_n 1, 1) := by decide +kernel
theorem dX12_await_182 : decode cX12_await 182 = .ok (.iadd, 1) := by decide +kernel
theorem dX12_await_183 : decode cX12_await 183 = .ok (.iload_n 2, 1) := by decide +kernel
theorem dX12_await_184 : decode cX12_await 184 = .ok (.iastore, 1) := by decide +kernel
theorem dX12_await_185 : decode cX12_await 185 = .ok (.aload_n 0, 1) := by decide +kernel
theorem dX12_await_186 : decode cX12_await 186 = .ok (.getfield 7, 3) := by decide +kernel
theorem dX12_await_189 : decode cX12_await 189 = .ok (.sipush 174, 3) := by decide +kernel
theorem dX12_await_192 : decode cX12_await 192 = .ok (.bipush 6, 2) := by decide +kernel
theorem dX12_await_194 : decode cX12_await 194 = .ok (.iload_n 2, 1) := by decide +kernel
theorem dX12_await_195 : decode cX12_await 195 = .ok (.imul, 1) := by decide +kernel
theorem dX12_await_196 : decode cX12_await 196 = .ok (.iadd, 1) := by decide +kernel
theorem dX12_await_197 : decode cX12_await 197 = .ok (.aload_n 0, 1) := by decide +kernel
theorem dX12_await_198 : decode cX12_await 198 = .ok (.getfield 7, 3) := by decide +kernel
theorem dX12_await_201 : decode cX12_await 201 = .ok (.bipush 118, 2) := by decide +kernel
theorem dX12_await_203 : decode cX12_await 203 = .ok (.iload_n 2, 1) := by decide +kernel
theorem dX12_await_204 : decode cX12_await 204 = .ok (.iadd, 1) := by decide +kernel
theorem dX12_await_205 : decode cX12_await 205 = .ok (.iaload, 1) := by decide +kernel
theorem dX12_await_206 : decode cX12_await 206 = .ok (.iadd, 1) := by decide +kernel
theorem dX12_await_207 : decode cX12_await 207 = .ok (.iload_n 1, 1) := by decide +kernel
theorem dX12_await_208 : decode cX12_await 208 = .ok (.iastore, 1) := by decide +kernel
theorem dX12_await_209 : decode cX12_await 209 = .ok (.aload_n 0, 1) := by decide +kernel
theorem dX12_await_210 : decode cX12_await 210 = .ok (.getfield 7, 3) := by decide +kernel
theorem dX12_await_213 : decode cX12_await 213 = .ok (.bipush 118, 2) := by decide +kernel
theorem dX12_await_215 : decode cX12_await 215 = .ok (.iload_n 2, 1) := by decide +kernel
theorem dX12_await_216 : decode cX12_await 216 = .ok (.iadd, 1) := by decide +kernel
theorem dX12_await_217 : decode cX12_await 217 = .ok (.dup2, 1) := by decide +kernel
theorem dX12_await_218 : decode cX12_await 218 = .ok (.iaload, 1) := by decide +kernel
theorem dX12_await_219 : decode cX12_await 219 = .ok (.iconst 1, 1) := by decide +kernel
theorem dX12_await_220 : decode cX12_await 220 = .ok (.iadd, 1) := by decide +kernel
theorem dX12_await_221 : decode cX12_await 221 = .ok (.iastore, 1) := by decide +kernel
theorem dX12_await_222 : decode cX12_await 222 = .ok (.aload_n 0, 1) := by decide +kernel
theorem dX12_await_223 : decode cX12_await 223 = .ok (.iload_n 2, 1) := by decide +kernel
theorem dX12_await_224 : decode cX12_await 224 = .ok (.invokevirtual 117, 3) := by decide +kernel
theorem dX12_await_227 : decode cX12_await 227 = .ok (.aload_n 0, 1) := by decide +kernel
theorem dX12_await_228 : decode cX12_await 228 = .ok (.iconst 2, 1) := by decide +kernel
theorem dX12_await_229 : decode cX12_await 229 = .ok (.iload_n 1, 1) := by decide +kernel
theorem dX12_await_230 : decode cX12_await 230 = .ok (.iload_n 2, 1) := by decide +kernel
theorem dX12_await_231 : decode cX12_await 231 = .ok (.iload_n 3, 1) := by decide +kernel
theorem dX12_await_232 : decode cX12_await 232 = .ok (.invokevirtual 110, 3) := by decide +kernel
theorem dX12_await_235 : decode cX12_await 235 = .ok (.iload 5, 2) := by decide +kernel
theorem dX12_await_237 : decode cX12_await 237 = .ok (.ireturn, 1) := by decide +kernel
theorem dX12_signal_0 : decode cX12_signal 0 = .ok (.aload_n 0, 1) := by decide +kernel
theorem dX12_signal_1 : decode cX12_signal 1 = .ok (.iload_n 1, 1) := by decide +kernel
theorem dX12_signal_2 : decode cX12_signal 2 = .ok (.iload_n 2, 1) := by decide +kernel
theorem dX12_signal_3 : decode cX12_signal 3 = .ok (.invokevirtual 114, 3) := by decide +kernel
theorem dX12_signal_6 : decode cX12_signal 6 = .ok (.istore_n 3, 1) := by decide +kernel
theorem dX12_signal_7 : decode cX12_signal 7 = .ok (.iload_n 3, 1) := by decide +kernel
theorem dX12_signal_8 : decode cX12_signal 8 = .ok (.ifCond .ge 5, 3) := by decide +kernel
theorem dX12_signal_11 : decode cX12_signal 11 = .ok (.iload_n 3, 1) := by decide +kernel
theorem dX12_signal_12 : decode cX12_signal 12 = .ok (.ireturn, 1) := by decide +kernel
theorem dX12_signal_13 : decode cX12_signal 13 = .ok (.bipush (-8), 2) := by decide +kernel
theorem dX12_signal_15 : decode cX12_signal 15 = .ok (.istore 4, 2) := by decide +kernel
theorem dX12_signal_17 : decode cX12_signal 17 = .ok (.aload_n 0, 1) := by decide +kernel
theorem dX12_signal_18 : decode cX12_signal 18 = .ok (.getfield 7, 3) := by decide +kernel
theorem dX12_signal_21 : decode cX12_signal 21 = .ok (.bipush 46, 2) := by decide +kernel
theorem dX12_signal_23 : decode cX12_signal 23 = .ok (.iload_n 2, 1) := by decide +kernel
theorem dX12_signal_24 : decode cX12_signal 24 = .ok (.iadd, 1) := by decide +kernel
theorem dX12_signal_25 : decode cX12_signal 25 = .ok (.iaload, 1) := by decide +kernel
theorem dX12_signal_26 : decode cX12_signal 26 = .ok (.iconst 4, 1) := by decide +kernel
theorem dX12_signal_27 : decode cX12_signal 27 = .ok (.if_icmp .ne 53, 3) := by decide +kernel
theorem dX12_signal_30 : decode cX12_signal 30 = .ok (.aload_n 0, 1) := by decide +kernel
theorem dX12_signal_31 : decode cX12_signal 31 = .ok (.getfield 7, 3) := by decide +kernel
theorem dX12_signal_34 : decode cX12_signal 34 = .ok (.bipush 118, 2) := by decide +kernel
theorem dX12_signal_36 : decode cX12_signal 36 = .ok (.iload_n 2, 1) := by decide +kernel
theorem dX12_signal_37 : decode cX12_signal 37 = .ok (.iadd, 1) := by decide +kernel
theorem dX12_signal_38 : decode cX12_signal 38 = .ok (.iaload, 1) := by decide +kernel
theorem dX12_signal_39 : decode cX12_signal 39 = .ok (.ifCond .le 41, 3) := by decide +kernel
theorem dX12_signal_42 : decode cX12_signal 42 = .ok (.aload_n 0, 1) := by decide +kernel
theorem dX12_signal_43 : decode cX12_signal 43 = .ok (.getfield 7, 3) := by decide +kernel
theorem dX12_signal_46 : decode cX12_signal 46 = .ok (.sipush 174, 3) := by decide +kernel
theorem dX12_signal_49 : decode cX12_signal 49 = .ok (.bipush 6, 2) := by decide +kernel
theorem dX12_signal_51 : decode cX12_signal 51 = .ok (.iload_n 2, 1) := by decide +kernel
theorem dX12_signal_52 : decode cX12_signal 52 = .ok (.imul, 1) := by decide +kernel
theorem dX12_signal_53 : decode cX12_signal 53 = .ok (.iadd, 1) := by decide +kernel
theorem dX12_signal_54 : decode cX12_signal 54 = .ok (.iaload, 1) := by decide +kernel
theorem dX12_signal_55 : decode cX12_signal 55 = .ok (.istore 4, 2) := by decide +kernel
theorem dX12_signal_57 : decode cX12_signal 57 = .ok (.aload_n 0, 1) := by decide +kernel
theorem dX12_signal_58 : decode cX12_signal 58 = .ok (.iload 4, 2) := by decide +kernel
theorem dX12_signal_60 : decode cX12_signal 60 = .ok (.iconst 1, 1) := by decide +kernel
theorem dX12_signal_61 : decode cX12_signal 61 = .ok (.aload_n 0, 1) := by decide +kernel
theorem dX12_signal_62 : decode cX12_signal 62 = .ok (.getfield 7, 3) := by decide +kernel
theorem dX12_signal_65 : decode cX12_signal 65 = .ok (.bipush 8, 2) := by decide +kernel
theorem dX12_signal_67 : decode cX12_signal 67 = .ok (.iaload, 1) := by decide +kernel
theorem dX12_signal_68 : decode cX12_signal 68 = .ok (.iconst 1, 1) := by decide +kernel
theorem dX12_signal_69 : decode cX12_signal 69 = .ok (.if_icmp .ne 7, 3) := by decide +kernel
theorem dX12_signal_72 : decode cX12_signal 72 = .ok (.iconst 1, 1) := by decide +kernel
theorem dX12_signal_73 : decode cX12_signal 73 = .ok (.goto 4, 3) := by decide +kernel
theorem dX12_signal_76 : decode cX12_signal 76 = .ok (.iconst 0, 1) := by decide +kernel
theorem dX12_signal_77 : decode cX12_signal 77 = .ok (.invokevirtual 120, 3) := by decide +kernel
theorem dX12_signal_80 : decode cX12_signal 80 = .ok (.aload_n 0, 1) := by decide +kernel
theorem dX12_signal_81 : decode cX12_signal 81 = .ok (.iconst 3, 1) := by decide +kernel
theorem dX12_signal_82 : decode cX12_signal 82 = .ok (.iload_n 1, 1) := by decide +kernel
theorem dX12_signal_83 : decode cX12_signal 83 = .ok (.iload_n 2, 1) := by decide +kernel
theorem dX12_signal_84 : decode cX12_signal 84 = .ok (.iconst 0, 1) := by decide +kernel
theorem dX12_signal_85 : decode cX12_signal 85 = .ok (.invokevirtual 110, 3) := by decide +kernel
theorem dX12_signal_88 : decode cX12_signal 88 = .ok (.iload 4, 2) := by decide +kernel
theorem dX12_signal_90 : decode cX12_signal 90 = .ok (.ireturn, 1) := by decide +kernel
theorem dX12_signalAll_0 : decode cX12_signalAll 0 = .ok (.aload_n 0, 1) := by decide +kernel
theorem dX12_signalAll_1 : decode cX12_signalAll 1 = .ok (.iload_n 1, 1) := by decide +kernel
theorem dX12_signalAll_2 : decode cX12_signalAll 2 = .ok (.iload_n 2, 1) := by decide +kernel
theorem dX12_signalAll_3 : decode cX12_signalAll 3 = .ok (.invokevirtual 114, 3) := by decide +kernel
theorem dX12_signalAll_6 : decode cX12_signalAll 6 = .ok (.istore_n 3, 1) := by decide +kernel
theorem dX12_signalAll_7 : decode cX12_signalAll 7 = .ok (.iload_n 3, 1) := by decide +kernel
theorem dX12_signalAll_8 : decode cX12_signalAll 8 = .ok (.ifCond .ge 5, 3) := by decide +kernel
theorem dX12_signalAll_11 : decode cX12_signalAll 11 = .ok (.iload_n 3, 1) := by decide +kernel
theorem dX12_signalAll_12 : decode cX12_signalAll 12 = .ok (.ireturn, 1) := by decide +kernel
theorem dX12_signalAll_13 : decode cX12_signalAll 13 = .ok (.iconst 0, 1) := by decide +kernel
theorem dX12_signalAll_14 : decode cX12_signalAll 14 = .ok (.istore 4, 2) := by decide +kernel
theorem dX12_signalAll_16 : decode cX12_signalAll 16 = .ok (.aload_n 0, 1) := by decide +kernel
theorem dX12_signalAll_17 : decode cX12_signalAll 17 = .ok (.getfield 7, 3) := by decide +kernel
theorem dX12_signalAll_20 : decode cX12_signalAll 20 = .ok (.bipush 46, 2) := by decide +kernel
theorem dX12_signalAll_22 : decode cX12_signalAll 22 = .ok (.iload_n 2, 1) := by decide +kernel
theorem dX12_signalAll_23 : decode cX12_signalAll 23 = .ok (.iadd, 1) := by decide +kernel
theorem dX12_signalAll_24 : decode cX12_signalAll 24 = .ok (.iaload, 1) := by decide +kernel
theorem dX12_signalAll_25 : decode cX12_signalAll 25 = .ok (.iconst 4, 1) := by decide +kernel
theorem dX12_signalAll_26 : decode cX12_signalAll 26 = .ok (.if_icmp .ne 40, 3) := by decide +kernel
theorem dX12_signalAll_29 : decode cX12_signalAll 29 = .ok (.aload_n 0, 1) := by decide +kernel
theorem dX12_signalAll_30 : decode cX12_signalAll 30 = .ok (.getfield 7, 3) := by decide +kernel
theorem dX12_signalAll_33 : decode cX12_signalAll 33 = .ok (.bipush 118, 2) := by decide +kernel
theorem dX12_signalAll_35 : decode cX12_signalAll 35 = .ok (.iload_n 2, 1) := by decide +kernel
theorem dX12_signalAll_36 : decode cX12_signalAll 36 = .ok (.iadd, 1) := by decide +kernel
theorem dX12_signalAll_37 : decode cX12_signalAll 37 = .ok (.iaload, 1) := by decide +kernel
theorem dX12_signalAll_38 : decode cX12_signalAll 38 = .ok (.ifCond .le 28, 3) := by decide +kernel
theorem dX12_signalAll_41 : decode cX12_signalAll 41 = .ok (.aload_n 0, 1) := by decide +kernel
theorem dX12_signalAll_42 : decode cX12_signalAll 42 = .ok (.aload_n 0, 1) := by decide +kernel
theorem dX12_signalAll_43 : decode cX12_signalAll 43 = .ok (.getfield 7, 3) := by decide +kernel
theorem dX12_signalAll_46 : decode cX12_signalAll 46 = .ok (.sipush 174, 3) := by decide +kernel
theorem dX12_signalAll_49 : decode cX12_signalAll 49 = .ok (.bipush 6, 2) := by decide +kernel
theorem dX12_signalAll_51 : decode cX12_signalAll 51 = .ok (.iload_n 2, 1) := by decide +kernel
theorem dX12_signalAll_52 : decode cX12_signalAll 52 = .ok (.imul, 1) := by decide +kernel
theorem dX12_signalAll_53 : decode cX12_signalAll 53 = .ok (.iadd, 1) := by decide +kernel
theorem dX12_signalAll_54 : decode cX12_signalAll 54 = .ok (.iaload, 1) := by decide +kernel
theorem dX12_signalAll_55 : decode cX12_signalAll 55 = .ok (.iconst 1, 1) := by decide +kernel
theorem dX12_signalAll_56 : decode cX12_signalAll 56 = .ok (.iconst 0, 1) := by decide +kernel
theorem dX12_signalAll_57 : decode cX12_signalAll 57 = .ok (.invokevirtual 120, 3) := by decide +kernel
theorem dX12_signalAll_60 : decode cX12_signalAll 60 = .ok (.iinc 4 1, 3) := by decide +kernel
theorem dX12_signalAll_63 : decode cX12_signalAll 63 = .ok (.goto (-47), 3) := by decide +kernel
theorem dX12_signalAll_66 : decode cX12_signalAll 66 = .ok (.aload_n 0, 1) := by decide +kernel
theorem dX12_signalAll_67 : decode cX12_signalAll 67 = .ok (.iconst 4, 1) := by decide +kernel
theorem dX12_signalAll_68 : decode cX12_signalAll 68 = .ok (.iload_n 1, 1) := by decide +kernel
theorem dX12_signalAll_69 : decode cX12_signalAll 69 = .ok (.iload_n 2, 1) := by decide +kernel
theorem dX12_signalAll_70 : decode cX12_signalAll 70 = .ok (.iconst 0, 1) := by decide +kernel
theorem dX12_signalAll_71 : decode cX12_signalAll 71 = .ok (.invokevirtual 110, 3) := by decide +kernel
theorem dX12_signalAll_74 : decode cX12_signalAll 74 = .ok (.iload 4, 2) := by decide +kernel
theorem dX12_signalAll_76 : decode cX12_signalAll 76 = .ok (.ireturn, 1) := by decide +kernel
theorem dX12_interrupt_0 : decode cX12_interrupt 0 = .ok (.aload_n 0, 1) := by decide +kernel
theorem dX12_interrupt_1 : decode cX12_interrupt 1 = .ok (.iload_n 1, 1) := by decide +kernel
theorem dX12_interrupt_2 : decode cX12_interrupt 2 = .ok (.invokevirtual 101, 3) := by decide +kernel
theorem dX12_interrupt_5 : decode cX12_interrupt 5 = .ok (.ifCond .ne 5, 3) := by decide +kernel
theorem dX12_interrupt_8 : decode cX12_interrupt 8 = .ok (.iconst (-1), 1) := by decide +kernel
theorem dX12_interrupt_9 : decode cX12_interrupt 9 = .ok (.ireturn, 1) := by decide +kernel
theorem dX12_interrupt_10 : decode cX12_interrupt 10 = .ok (.aload_n 0, 1) := by decide +kernel
theorem dX12_interrupt_11 : decode cX12_interrupt 11 = .ok (.getfield 7, 3) := by decide +kernel
theorem dX12_interrupt_14 : decode cX12_interrupt 14 = .ok (.bipush 10, 2) := by decide +kernel
theorem dX12_interrupt_16 : decode cX12_interrupt 16 = .ok (.iload_n 1, 1) := by decide +kernel
theorem dX12_interrupt_17 : decode cX12_interrupt 17 = .ok (.iadd, 1) := by decide +kernel
theorem dX12_interrupt_18 : decode cX12_interrupt 18 = .ok (.iaload, 1) := by decide +kernel
theorem dX12_interrupt_19 : decode cX12_interrupt 19 = .ok (.iconst 3, 1) := by decide +kernel
theorem dX12_interrupt_20 : decode cX12_interrupt 20 = .ok (.if_icmp .ne 6, 3) := by decide +kernel
theorem dX12_interrupt_23 : decode cX12_interrupt 23 = .ok (.bipush (-7), 2) := by decide +kernel
theorem dX12_interrupt_25 : decode cX12_interrupt 25 = .ok (.ireturn, 1) := by decide +kernel
theorem dX12_interrupt_26 : decode cX12_interrupt 26 = .ok (.aload_n 0, 1) := by decide +kernel
theorem dX12_interrupt_27 : decode cX12_interrupt 27 = .ok (.iconst 5, 1) := by decide +kernel
theorem dX12_interrupt_28 : decode cX12_interrupt 28 = .ok (.iload_n 1, 1) := by decide +kernel
theorem dX12_interrupt_29 : decode cX12_interrupt 29 = .ok (.iconst 0, 1) := by decide +kernel
theorem dX12_interrupt_30 : decode cX12_interrupt 30 = .ok (.iconst 0, 1) := by decide +kernel
theorem dX12_interrupt_31 : decode cX12_interrupt 31 = .ok (.invokevirtual 110, 3) := by decide +kernel
theorem dX12_interrupt_34 : decode cX12_interrupt 34 = .ok (.aload_n 0, 1) := by decide +kernel
theorem dX12_interrupt_35 : decode cX12_interrupt 35 = .ok (.getfield 7, 3) := by decide +kernel
theorem dX12_interrupt_38 : decode cX12_interrupt 38 = .ok (.bipush 10, 2) := by decide +kernel
theorem dX12_interrupt_40 : decode cX12_interrupt 40 = .ok (.iload_n 1, 1) := by decide +kernel
theorem dX12_interrupt_41 : decode cX12_interrupt 41 = .ok (.iadd, 1) := by decide +kernel
theorem dX12_interrupt_42 : decode cX12_interrupt 42 = .ok (.iaload, 1) := by decide +kernel
theorem dX12_interrupt_43 : decode cX12_interrupt 43 = .ok (.iconst 2, 1) := by decide +kernel
theorem dX12_interrupt_44 : decode cX12_interrupt 44 = .ok (.if_icmp .ne 12, 3) := by decide +kernel
theorem dX12_interrupt_47 : decode cX12_interrupt 47 = .ok (.aload_n 0, 1) := by decide +kernel
theorem dX12_interrupt_48 : decode cX12_interrupt 48 = .ok (.iload_n 1, 1) := by decide +kernel
theorem dX12_interrupt_49 : decode cX12_interrupt 49 = .ok (.iconst 3, 1) := by decide +kernel
theorem dX12_interrupt_50 : decode cX12_interrupt 50 = .ok (.iconst 0, 1) := by decide +kernel
theorem dX12_interrupt_51 : decode cX12_interrupt 51 = .ok (.invokevirtual 120, 3) := by decide +kernel
theorem dX12_interrupt_54 : decode cX12_interrupt 54 = .ok (.iconst 1, 1) := by decide +kernel
theorem dX12_interrupt_55 : decode cX12_interrupt 55 = .ok (.ireturn, 1) := by decide +kernel
theorem dX12_interrupt_56 : decode cX12_interrupt 56 = .ok (.aload_n 0, 1) := by decide +kernel
theorem dX12_interrupt_57 : decode cX12_interrupt 57 = .ok (.getfield 7, 3) := by decide +kernel
theorem dX12_interrupt_60 : decode cX12_interrupt 60 = .ok (.bipush 16, 2) := by decide +kernel
theorem dX12_interrupt_62 : decode cX12_interrupt 62 = .ok (.iload_n 1, 1) := by decide +kernel
theorem dX12_interrupt_63 : decode cX12_interrupt 63 = .ok (.iadd, 1) := by decide +kernel
theorem dX12_interrupt_64 : decode cX12_interrupt 64 = .ok (.iconst 1, 1) := by decide +kernel
theorem dX12_interrupt_65 : decode cX12_interrupt 65 = .ok (.iastore, 1) := by decide +kernel
theorem dX12_interrupt_66 : decode cX12_interrupt 66 = .ok (.iconst 0, 1) := by decide +kernel
theorem dX12_interrupt_67 : decode cX12_interrupt 67 = .ok (.ireturn, 1) := by decide +kernel
theorem dX12_die_0 : decode cX12_die 0 = .ok (.aload_n 0, 1) := by decide +kernel
theorem dX12_die_1 : decode cX12_die 1 = .ok (.iload_n 1, 1) := by decide +kernel
theorem dX12_die_2 : decode cX12_die 2 = .ok (.invokevirtual 101, 3) := by decide +kernel
theorem dX12_die_5 : decode cX12_die 5 = .ok (.ifCond .ne 5, 3) := by decide +kernel
theorem dX12_die_8 : decode cX12_die 8 = .ok (.iconst (-1), 1) := by decide +kernel
theorem dX12_die_9 : decode cX12_die 9 = .ok (.ireturn, 1) := by decide +kernel
theorem dX12_die_10 : decode cX12_die 10 = .ok (.aload_n 0, 1) := by decide +kernel
theorem dX12_die_11 : decode cX12_die 11 = .ok (.getfield 7, 3) := by decide +kernel
theorem dX12_die_14 : decode cX12_die 14 = .ok (.bipush 10, 2) := by decide +kernel
theorem dX12_die_16 : decode cX12_die 16 = .ok (.iload_n 1, 1) := by decide +kernel
theorem dX12_die_17 : decode cX12_die 17 = .ok (.iadd, 1) := by decide +kernel
theorem dX12_die_18 : decode cX12_die 18 = .ok (.iaload, 1) := by decide +kernel
theorem dX12_die_19 : decode cX12_die 19 = .ok (.iconst 3, 1) := by decide +kernel
theorem dX12_die_20 : decode cX12_die 20 = .ok (.if_icmp .ne 6, 3) := by decide +kernel
theorem dX12_die_23 : decode cX12_die 23 = .ok (.bipush (-7), 2) := by decide +kernel
theorem dX12_die_25 : decode cX12_die 25 = .ok (.ireturn, 1) := by decide +kernel
theorem dX12_die_26 : decode cX12_die 26 = .ok (.aload_n 0, 1) := by decide +kernel
theorem dX12_die_27 : decode cX12_die 27 = .ok (.getfield 7, 3) := by decide +kernel
theorem dX12_die_30 : decode cX12_die 30 = .ok (.bipush 28, 2) := by decide +kernel
theorem dX12_die_32 : decode cX12_die 32 = .ok (.iload_n 1, 1) := by decide +kernel
theorem dX12_die_33 : decode cX12_die 33 = .ok (.iadd, 1) := by decide +kernel
theorem dX12_die_34 : decode cX12_die 34 = .ok (.iaload, 1) := by decide +kernel
theorem dX12_die_35 : decode cX12_die 35 = .ok (.istore_n 2, 1) := by decide +kernel
theorem dX12_die_36 : decode cX12_die 36 = .ok (.iload_n 2, 1) := by decide +kernel
theorem dX12_die_37 : decode cX12_die 37 = .ok (.bipush (-8), 2) := by decide +kernel
theorem dX12_die_39 : decode cX12_die 39 = .ok (.if_icmp .eq 36, 3) := by decide +kernel
theorem dX12_die_42 : decode cX12_die 42 = .ok (.aload_n 0, 1) := by decide +kernel
theorem dX12_die_43 : decode cX12_die 43 = .ok (.iload_n 1, 1) := by decide +kernel
theorem dX12_die_44 : decode cX12_die 44 = .ok (.bipush 126, 2) := by decide +kernel
theorem dX12_die_46 : decode cX12_die 46 = .ok (.bipush 6, 2) := by decide +kernel
theorem dX12_die_48 : decode cX12_die 48 = .ok (.iload_n 2, 1) := by decide +kernel
theorem dX12_die_49 : decode cX12_die 49 = .ok (.imul, 1) := by decide +kernel
theorem dX12_die_50 : decode cX12_die 50 = .ok (.iadd, 1) := by decide +kernel
theorem dX12_die_51 : decode cX12_die 51 = .ok (.bipush 110, 2) := by decide +kernel
theorem dX12_die_53 : decode cX12_die 53 = .ok (.iload_n 2, 1) := by decide +kernel
theorem dX12_die_54 : decode cX12_die 54 = .ok (.iadd, 1) := by decide +kernel
theorem dX12_die_55 : decode cX12_die 55 = .ok (.invokevirtual 64, 3) := by decide +kernel
theorem dX12_die_58 : decode cX12_die 58 = .ok (.aload_n 0, 1) := by decide +kernel
theorem dX12_die_59 : decode cX12_die 59 = .ok (.iload_n 1, 1) := by decide +kernel
theorem dX12_die_60 : decode cX12_die 60 = .ok (.sipush 174, 3) := by decide +kernel
theorem dX12_die_63 : decode cX12_die 63 = .ok (.bipush 6, 2) := by decide +kernel
theorem dX12_die_65 : decode cX12_die 65 = .ok (.iload_n 2, 1) := by decide +kernel
theorem dX12_die_66 : decode cX12_die 66 = .ok (.imul, 1) := by decide +kernel
theorem dX12_die_67 : decode cX12_die 67 = .ok (.iadd, 1) := by decide +kernel
theorem dX12_die_68 : decode cX12_die 68 = .ok (.bipush 118, 2) := by decide +kernel
theorem dX12_die_70 : decode cX12_die 70 = .ok (.iload_n 2, 1) := by decide +kernel
theorem dX12_die_71 : decode cX12_die 71 = .ok (.iadd, 1) := by decide +kernel
theorem dX12_die_72 : decode cX12_die 72 = .ok (.invokevirtual 64, 3) := by decide +kernel
theorem dX12_die_75 : decode cX12_die 75 = .ok (.aload_n 0, 1) := by decide +kernel
theorem dX12_die_76 : decode cX12_die 76 = .ok (.getfield 7, 3) := by decide +kernel
theorem dX12_die_79 : decode cX12_die 79 = .ok (.bipush 10, 2) := by decide +kernel
theorem dX12_die_81 : decode cX12_die 81 = .ok (.iload_n 1, 1) := by decide +kernel
theorem dX12_die_82 : decode cX12_die 82 = .ok (.iadd, 1) := by decide +kernel
theorem dX12_die_83 : decode cX12_die 83 = .ok (.iconst 3, 1) := by decide +kernel
theorem dX12_die_84 : decode cX12_die 84 = .ok (.iastore, 1) := by decide +kernel
theorem dX12_die_85 : decode cX12_die 85 = .ok (.aload_n 0, 1) := by decide +kernel
theorem dX12_die_86 : decode cX12_die 86 = .ok (.getfield 7, 3) := by decide +kernel
theorem dX12_die_89 : decode cX12_die 89 = .ok (.bipush 28, 2) := by decide +kernel
theorem dX12_die_91 : decode cX12_die 91 = .ok (.iload_n 1, 1) := by decide +kernel
theorem dX12_die_92 : decode cX12_die 92 = .ok (.iadd, 1) := by decide +kernel
theorem dX12_die_93 : decode cX12_die 93 = .ok (.bipush (-8), 2) := by decide +kernel
theorem dX12_die_95 : decode cX12_die 95 = .ok (.iastore, 1) := by decide +kernel
theorem dX12_die_96 : decode cX12_die 96 = .ok (.aload_n 0, 1) := by decide +kernel
theorem dX12_die_97 : decode cX12_die 97 = .ok (.getfield 7, 3) := by decide +kernel
theorem dX12_die_100 : decode cX12_die 100 = .ok (.bipush 16, 2) := by decide +kernel
theorem dX12_die_102 : decode cX12_die 102 = .ok (.iload_n 1, 1) := by decide +kernel
theorem dX12_die_103 : decode cX12_die 103 = .ok (.iadd, 1) := by decide +kernel
theorem dX12_die_104 : decode cX12_die 104 = .ok (.iconst 0, 1) := by decide +kernel
theorem dX12_die_105 : decode cX12_die 105 = .ok (.iastore, 1) := by decide +kernel
theorem dX12_die_106 : decode cX12_die 106 = .ok (.iconst 0, 1) := by decide +kernel
theorem dX12_die_107 : decode cX12_die 107 = .ok (.istore_n 3, 1) := by decide +kernel
theorem dX12_die_108 : decode cX12_die 108 = .ok (.iconst 0, 1) := by decide +kernel
theorem dX12_die_109 : decode cX12_die 109 = .ok (.istore 4, 2) := by decide +kernel
theorem dX12_die_111 : decode cX12_die 111 = .ok (.iload 4, 2) := by decide +kernel
theorem dX12_die_113 : decode cX12_die 113 = .ok (.bipush 8, 2) := by decide +kernel
theorem dX12_die_115 : decode cX12_die 115 = .ok (.if_icmp .ge 52, 3) := by decide +kernel
theorem dX12_die_118 : decode cX12_die 118 = .ok (.aload_n 0, 1) := by decide +kernel
theorem dX12_die_119 : decode cX12_die 119 = .ok (.iload 4, 2) := by decide +kernel
theorem dX12_die_121 : decode cX12_die 121 = .ok (.invokevirtual 54, 3) := by decide +kernel
theorem dX12_die_124 : decode cX12_die 124 = .ok (.ifCond .eq 37, 3) := by decide +kernel
theorem dX12_die_127 : decode cX12_die 127 = .ok (.aload_n 0, 1) := by decide +kernel
theorem dX12_die_128 : decode cX12_die 128 = .ok (.getfield 7, 3) := by decide +kernel
theorem dX12_die_131 : decode cX12_die 131 = .ok (.bipush 54, 2) := by decide +kernel
theorem dX12_die_133 : decode cX12_die 133 = .ok (.iload 4, 2) := by decide +kernel
theorem dX12_die_135 : decode cX12_die 135 = .ok (.iadd, 1) := by decide +kernel
theorem dX12_die_136 : decode cX12_die 136 = .ok (.iaload, 1) := by decide +kernel
theorem dX12_die_137 : decode cX12_die 137 = .ok (.iload_n 1, 1) := by decide +kernel
theorem dX12_die_138 : decode cX12_die 138 = .ok (.if_icmp .ne 23, 3) := by decide +kernel
theorem dX12_die_141 : decode cX12_die 141 = .ok (.iinc 3 1, 3) := by decide +kernel
theorem dX12_die_144 : decode cX12_die 144 = .ok (.aload_n 0, 1) := by decide +kernel
theorem dX12_die_145 : decode cX12_die 145 = .ok (.getfield 7, 3) := by decide +kernel
theorem dX12_die_148 : decode cX12_die 148 = .ok (.bipush 86, 2) := by decide +kernel
theorem dX12_die_150 : decode cX12_die 150 = .ok (.iload 4, 2) := by decide +kernel
theorem dX12_die_152 : decode cX12_die 152 = .ok (.iadd, 1) := by decide +kernel
theorem dX12_die_153 : decode cX12_die 153 = .ok (.iconst 1, 1) := by decide +kernel
theorem dX12_die_154 : decode cX12_die 154 = .ok (.iastore, 1) := by decide +kernel
theorem dX12_die_155 : decode cX12_die 155 = .ok (.aload_n 0, 1) := by decide +kernel
theorem dX12_die_156 : decode cX12_die 156 = .ok (.iload 4, 2) := by decide +kernel
theorem dX12_die_158 : decode cX12_die 158 = .ok (.invokevirtual 117, 3) := by decide +kernel
theorem dX12_die_161 : decode cX12_die 161 = .ok (.iinc 4 1, 3) := by decide +kernel
theorem dX12_die_164 : decode cX12_die 164 = .ok (.goto (-53), 3) := by decide +kernel
theorem dX12_die_167 : decode cX12_die 167 = .ok (.aload_n 0, 1) := by decide +kernel
theorem dX12_die_168 : decode cX12_die 168 = .ok (.bipush 6, 2) := by decide +kernel
theorem dX12_die_170 : decode cX12_die 170 = .ok (.iload_n 1, 1) := by decide +kernel
theorem dX12_die_171 : decode cX12_die 171 = .ok (.iconst 0, 1) := by decide +kernel
theorem dX12_die_172 : decode cX12_die 172 = .ok (.iconst 0, 1) := by decide +kernel
theorem dX12_die_173 : decode cX12_die 173 = .ok (.invokevirtual 110, 3) := by decide +kernel
theorem dX12_die_176 : decode cX12_die 176 = .ok (.iload_n 3, 1) := by decide +kernel
theorem dX12_die_177 : decode cX12_die 177 = .ok (.ireturn, 1) := by decide +kernel
theorem dX12_start_0 : decode cX12_start 0 = .ok (.aload_n 0, 1) := by decide +kernel
theorem dX12_start_1 : decode cX12_start 1 = .ok (.iload_n 1, 1) := by decide +kernel
theorem dX12_start_2 : decode cX12_start 2 = .ok (.invokevirtual 101, 3) := by decide +kernel
theorem dX12_start_5 : decode cX12_start 5 = .ok (.ifCond .ne 5, 3) := by decide +kernel
theorem dX12_start_8 : decode cX12_start 8 = .ok (.iconst (-1), 1) := by decide +kernel
theorem dX12_start_9 : decode cX12_start 9 = .ok (.ireturn, 1) := by decide +kernel
theorem dX12_start_10 : decode cX12_start 10 = .ok (.aload_n 0, 1) := by decide +kernel
theorem dX12_start_11 : decode cX12_start 11 = .ok (.getfield 7, 3) := by decide +kernel
theorem dX12_start_14 : decode cX12_start 14 = .ok (.bipush 10, 2) := by decide +kernel
theorem dX12_start_16 : decode cX12_start 16 = .ok (.iload_n 1, 1) := by decide +kernel
theorem dX12_start_17 : decode cX12_start 17 = .ok (.iadd, 1) := by decide +kernel
theorem dX12_start_18 : decode cX12_start 18 = .ok (.iaload, 1) := by decide +kernel
theorem dX12_start_19 : decode cX12_start 19 = .ok (.iconst 3, 1) := by decide +kernel
theorem dX12_start_20 : decode cX12_start 20 = .ok (.if_icmp .eq 6, 3) := by decide +kernel
theorem dX12_start_23 : decode cX12_start 23 = .ok (.bipush (-7), 2) := by decide +kernel
theorem dX12_start_25 : decode cX12_start 25 = .ok (.ireturn, 1) := by decide +kernel
theorem dX12_start_26 : decode cX12_start 26 = .ok (.aload_n 0, 1) := by decide +kernel
theorem dX12_start_27 : decode cX12_start 27 = .ok (.getfield 7, 3) := by decide +kernel
theorem dX12_start_30 : decode cX12_start 30 = .ok (.bipush 10, 2) := by decide +kernel
theorem dX12_start_32 : decode cX12_start 32 = .ok (.iload_n 1, 1) := by decide +kernel
theorem dX12_start_33 : decode cX12_start 33 = .ok (.iadd, 1) := by decide +kernel
theorem dX12_start_34 : decode cX12_start 34 = .ok (.iconst 0, 1) := by decide +kernel
theorem dX12_start_35 : decode cX12_start 35 = .ok (.iastore, 1) := by decide +kernel
theorem dX12_start_36 : decode cX12_start 36 = .ok (.aload_n 0, 1) := by decide +kernel
theorem dX12_start_37 : decode cX12_start 37 = .ok (.bipush 7, 2) := by decide +kernel
theorem dX12_start_39 : decode cX12_start 39 = .ok (.iload_n 1, 1) := by decide +kernel
theorem dX12_start_40 : decode cX12_start 40 = .ok (.iconst 0, 1) := by decide +kernel
theorem dX12_start_41 : decode cX12_start 41 = .ok (.iconst 0, 1) := by decide +kernel
theorem dX12_start_42 : decode cX12_start 42 = .ok (.invokevirtual 110, 3) := by decide +kernel
theorem dX12_start_45 : decode cX12_start 45 = .ok (.iconst 0, 1) := by decide +kernel
theorem dX12_start_46 : decode cX12_start 46 = .ok (.istore_n 2, 1) := by decide +kernel
theorem dX12_start_47 : decode cX12_start 47 = .ok (.iconst 0, 1) := by decide +kernel
theorem dX12_start_48 : decode cX12_start 48 = .ok (.istore_n 3, 1) := by decide +kernel
theorem dX12_start_49 : decode cX12_start 49 = .ok (.iload_n 3, 1) := by decide +kernel
theorem dX12_start_50 : decode cX12_start 50 = .ok (.aload_n 0, 1) := by decide +kernel
theorem dX12_start_51 : decode cX12_start 51 = .ok (.getfield 7, 3) := by decide +kernel
theorem dX12_start_54 : decode cX12_start 54 = .ok (.iconst 0, 1) := by decide +kernel
theorem dX12_start_55 : decode cX12_start 55 = .ok (.iaload, 1) := by decide +kernel
theorem dX12_start_56 : decode cX12_start 56 = .ok (.if_icmp .ge 30, 3) := by decide +kernel
theorem dX12_start_59 : decode cX12_start 59 = .ok (.iload_n 2, 1) := by decide +kernel
theorem dX12_start_60 : decode cX12_start 60 = .ok (.aload_n 0, 1) := by decide +kernel
theorem dX12_start_61 : decode cX12_start 61 = .ok (.getfield 7, 3) := by decide +kernel
theorem dX12_start_64 : decode cX12_start 64 = .ok (.bipush 10, 2) := by decide +kernel
theorem dX12_start_66 : decode cX12_start 66 = .ok (.iload_n 3, 1) := by decide +kernel
theorem dX12_start_67 : decode cX12_start 67 = .ok (.iadd, 1) := by decide +kernel
theorem dX12_start_68 : decode cX12_start 68 = .ok (.iaload, 1) := by decide +kernel
theorem dX12_start_69 : decode cX12_start 69 = .ok (.iconst 3, 1) := by decide +kernel
theorem dX12_start_70 : decode cX12_start 70 = .ok (.if_icmp .eq 7, 3) := by decide +kernel
theorem dX12_start_73 : decode cX12_start 73 = .ok (.iconst 1, 1) := by decide +kernel
theorem dX12_start_74 : decode cX12_start 74 = .ok (.goto 4, 3) := by decide +kernel
theorem dX12_start_77 : decode cX12_start 77 = .ok (.iconst 0, 1) := by decide +kernel
theorem dX12_start_78 : decode cX12_start 78 = .ok (.iadd, 1) := by decide +kernel
theorem dX12_start_79 : decode cX12_start 79 = .ok (.istore_n 2, 1) := by decide +kernel
theorem dX12_start_80 : decode cX12_start 80 = .ok (.iinc 3 1, 3) := by decide +kernel
theorem dX12_start_83 : decode cX12_start 83 = .ok (.goto (-34), 3) := by decide +kernel
theorem dX12_start_86 : decode cX12_start 86 = .ok (.iload_n 2, 1) := by decide +kernel
theorem dX12_start_87 : decode cX12_start 87 = .ok (.ireturn, 1) := by decide +kernel
theorem dX12_hash_0 : decode cX12_hash 0 = .ok (.iload_n 1, 1) := by decide +kernel
theorem dX12_hash_1 : decode cX12_hash 1 = .ok (.invokestatic 104, 3) := by decide +kernel
theorem dX12_hash_4 : decode cX12_hash 4 = .ok (.ifCond .ne 6, 3) := by decide +kernel
theorem dX12_hash_7 : decode cX12_hash 7 = .ok (.bipush (-2), 2) := by decide +kernel
theorem dX12_hash_9 : decode cX12_hash 9 = .ok (.ireturn, 1) := by decide +kernel
theorem dX12_hash_10 : decode cX12_hash 10 = .ok (.aload_n 0, 1) := by decide +kernel
theorem dX12_hash_11 : decode cX12_hash 11 = .ok (.getfield 7, 3) := by decide +kernel
theorem dX12_hash_14 : decode cX12_hash 14 = .ok (.bipush 94, 2) := by decide +kernel
theorem dX12_hash_16 : decode cX12_hash 16 = .ok (.iload_n 1, 1) := by decide +kernel
theorem dX12_hash_17 : decode cX12_hash 17 = .ok (.iadd, 1) := by decide +kernel
theorem dX12_hash_18 : decode cX12_hash 18 = .ok (.iaload, 1) := by decide +kernel
theorem dX12_hash_19 : decode cX12_hash 19 = .ok (.bipush (-8), 2) := by decide +kernel
theorem dX12_hash_21 : decode cX12_hash 21 = .ok (.if_icmp .ne 109, 3) := by decide +kernel
theorem dX12_hash_24 : decode cX12_hash 24 = .ok (.aload_n 0, 1) := by decide +kernel
theorem dX12_hash_25 : decode cX12_hash 25 = .ok (.getfield 7, 3) := by decide +kernel
theorem dX12_hash_28 : decode cX12_hash 28 = .ok (.bipush 46, 2) := by decide +kernel
theorem dX12_hash_30 : decode cX12_hash 30 = .ok (.iload_n 1, 1) := by decide +kernel
theorem dX12_hash_31 : decode cX12_hash 31 = .ok (.iadd, 1) := by decide +kernel
theorem dX12_hash_32 : decode cX12_hash 32 = .ok (.iaload, 1) := by decide +kernel
theorem dX12_hash_33 : decode cX12_hash 33 = .ok (.istore_n 2, 1) := by decide +kernel
theorem dX12_hash_34 : decode cX12_hash 34 = .ok (.iload_n 2, 1) := by decide +kernel
theorem dX12_hash_35 : decode cX12_hash 35 = .ok (.iconst 3, 1) := by decide +kernel
theorem dX12_hash_36 : decode cX12_hash 36 = .ok (.if_icmp .eq 16, 3) := by decide +kernel
theorem dX12_hash_39 : decode cX12_hash 39 = .ok (.iload_n 2, 1) := by decide +kernel
theorem dX12_hash_40 : decode cX12_hash 40 = .ok (.iconst 2, 1) := by decide +kernel
theorem dX12_hash_41 : decode cX12_hash 41 = .ok (.if_icmp .ne 22, 3) := by decide +kernel
theorem dX12_hash_44 : decode cX12_hash 44 = .ok (.aload_n 0, 1) := by decide +kernel
theorem dX12_hash_45 : decode cX12_hash 45 = .ok (.iload_n 1, 1) := by decide +kernel
theorem dX12_hash_46 : decode cX12_hash 46 = .ok (.invokevirtual 54, 3) := by decide +kernel
theorem dX12_hash_49 : decode cX12_hash 49 = .ok (.ifCond .eq 14, 3) := by decide +kernel
theorem dX12_hash_52 : decode cX12_hash 52 = .ok (.aload_n 0, 1) := by decide +kernel
theorem dX12_hash_53 : decode cX12_hash 53 = .ok (.iload_n 1, 1) := by decide +kernel
theorem dX12_hash_54 : decode cX12_hash 54 = .ok (.invokevirtual 91, 3) := by decide +kernel
theorem dX12_hash_57 : decode cX12_hash 57 = .ok (.ifCond .ne 6, 3) := by decide +kernel
theorem dX12_hash_60 : decode cX12_hash 60 = .ok (.bipush (-6), 2) := by decide +kernel
theorem dX12_hash_62 : decode cX12_hash 62 = .ok (.ireturn, 1) := by decide +kernel
theorem dX12_hash_63 : decode cX12_hash 63 = .ok (.iload_n 2, 1) := by decide +kernel
theorem dX12_hash_64 : decode cX12_hash 64 = .ok (.iconst 1, 1) := by decide +kernel
theorem dX12_hash_65 : decode cX12_hash 65 = .ok (.if_icmp .eq 16, 3) := by decide +kernel
theorem dX12_hash_68 : decode cX12_hash 68 = .ok (.iload_n 2, 1) := by decide +kernel
theorem dX12_hash_69 : decode cX12_hash 69 = .ok (.iconst 2, 1) := by decide +kernel
theorem dX12_hash_70 : decode cX12_hash 70 = .ok (.if_icmp .ne 16, 3) := by decide +kernel
theorem dX12_hash_73 : decode cX12_hash 73 = .ok (.aload_n 0, 1) := by decide +kernel
theorem dX12_hash_74 : decode cX12_hash 74 = .ok (.iload_n 1, 1) := by decide +kernel
theorem dX12_hash_75 : decode cX12_hash 75 = .ok (.invokevirtual 54, 3) := by decide +kernel
theorem dX12_hash_78 : decode cX12_hash 78 = .ok (.ifCond .ne 8, 3) := by decide +kernel
theorem dX12_hash_81 : decode cX12_hash 81 = .ok (.aload_n 0, 1) := by decide +kernel
theorem dX12_hash_82 : decode cX12_hash 82 = .ok (.iload_n 1, 1) := by decide +kernel
theorem dX12_hash_83 : decode cX12_hash 83 = .ok (.invokevirtual 81, 3) := by decide +kernel
theorem dX12_hash_86 : decode cX12_hash 86 = .ok (.aload_n 0, 1) := by decide +kernel
theorem dX12_hash_87 : decode cX12_hash 87 = .ok (.getfield 7, 3) := by decide +kernel
theorem dX12_hash_90 : decode cX12_hash 90 = .ok (.bipush 94, 2) := by decide +kernel
theorem dX12_hash_92 : decode cX12_hash 92 = .ok (.iload_n 1, 1) := by decide +kernel
theorem dX12_hash_93 : decode cX12_hash 93 = .ok (.iadd, 1) := by decide +kernel
theorem dX12_hash_94 : decode cX12_hash 94 = .ok (.sipush 7919, 3) := by decide +kernel
theorem dX12_hash_97 : decode cX12_hash 97 = .ok (.aload_n 0, 1) := by decide +kernel
theorem dX12_hash_98 : decode cX12_hash 98 = .ok (.getfield 7, 3) := by decide +kernel
theorem dX12_hash_101 : decode cX12_hash 101 = .ok (.sipush 240, 3) := by decide +kernel
theorem dX12_hash_104 : decode cX12_hash 104 = .ok (.iaload, 1) := by decide +kernel
theorem dX12_hash_105 : decode cX12_hash 105 = .ok (.iconst 1, 1) := by decide +kernel
theorem dX12_hash_106 : decode cX12_hash 106 = .ok (.iadd, 1) := by decide +kernel
theorem dX12_hash_107 : decode cX12_hash 107 = .ok (.imul, 1) := by decide +kernel
theorem dX12_hash_108 : decode cX12_hash 108 = .ok (.bipush 13, 2) := by decide +kernel
theorem dX12_hash_110 : decode cX12_hash 110 = .ok (.iload_n 1, 1) := by decide +kernel
theorem dX12_hash_111 : decode cX12_hash 111 = .ok (.imul, 1) := by decide +kernel
theorem dX12_hash_112 : decode cX12_hash 112 = .ok (.iadd, 1) := by decide +kernel
theorem dX12_hash_113 : decode cX12_hash 113 = .ok (.sipush 1000, 3) := by decide +kernel
theorem dX12_hash_116 : decode cX12_hash 116 = .ok (.irem, 1) := by decide +kernel
theorem dX12_hash_117 : decode cX12_hash 117 = .ok (.iastore, 1) := by decide +kernel
theorem dX12_hash_118 : decode cX12_hash 118 = .ok (.aload_n 0, 1) := by decide +kernel
theorem dX12_hash_119 : decode cX12_hash 119 = .ok (.getfield 7, 3) := by decide +kernel
theorem dX12_hash_122 : decode cX12_hash 122 = .ok (.sipush 240, 3) := by decide +kernel
theorem dX12_hash_125 : decode cX12_hash 125 = .ok (.dup2, 1) := by decide +kernel
theorem dX12_hash_126 : decode cX12_hash 126 = .ok (.iaload, 1) := by decide +kernel
theorem dX12_hash_127 : decode cX12_hash 127 = .ok (.iconst 1, 1) := by decide +kernel
theorem dX12_hash_128 : decode cX12_hash 128 = .ok (.iadd, 1) := by decide +kernel
theorem dX12_hash_129 : decode cX12_hash 129 = .ok (.iastore, 1) := by decide +kernel
theorem dX12_hash_130 : decode cX12_hash 130 = .ok (.aload_n 0, 1) := by decide +kernel
theorem dX12_hash_131 : decode cX12_hash 131 = .ok (.bipush 8, 2) := by decide +kernel
theorem dX12_hash_133 : decode cX12_hash 133 = .ok (.iload_n 1, 1) := by decide +kernel
theorem dX12_hash_134 : decode cX12_hash 134 = .ok (.iconst 0, 1) := by decide +kernel
theorem dX12_hash_135 : decode cX12_hash 135 = .ok (.iconst 0, 1) := by decide +kernel
theorem dX12_hash_136 : decode cX12_hash 136 = .ok (.invokevirtual 110, 3) := by decide +kernel
theorem dX12_hash_139 : decode cX12_hash 139 = .ok (.aload_n 0, 1) := by decide +kernel
theorem dX12_hash_140 : decode cX12_hash 140 = .ok (.getfield 7, 3) := by decide +kernel
theorem dX12_hash_143 : decode cX12_hash 143 = .ok (.bipush 94, 2) := by decide +kernel
theorem dX12_hash_145 : decode cX12_hash 145 = .ok (.iload_n 1, 1) := by decide +kernel
theorem dX12_hash_146 : decode cX12_hash 146 = .ok (.iadd, 1) := by decide +kernel
theorem dX12_hash_147 : decode cX12_hash 147 = .ok (.iaload, 1) := by decide +kernel
theorem dX12_hash_148 : decode cX12_hash 148 = .ok (.ireturn, 1) := by decide +kernel
theorem dX12_tickOnce_0 : decode cX12_tickOnce 0 = .ok (.aload_n 0, 1) := by decide +kernel
theorem dX12_tickOnce_1 : decode cX12_tickOnce 1 = .ok (.getfield 7, 3) := by decide +kernel
theorem dX12_tickOnce_4 : decode cX12_tickOnce 4 = .ok (.bipush 9, 2) := by decide +kernel
theorem dX12_tickOnce_6 : decode cX12_tickOnce 6 = .ok (.dup2, 1) := by decide +kernel
theorem dX12_tickOnce_7 : decode cX12_tickOnce 7 = .ok (.iaload, 1) := by decide +kernel
theorem dX12_tickOnce_8 : decode cX12_tickOnce 8 = .ok (.iconst 1, 1) := by decide +kernel
theorem dX12_tickOnce_9 : decode cX12_tickOnce 9 = .ok (.iadd, 1) := by decide +kernel
theorem dX12_tickOnce_10 : decode cX12_tickOnce 10 = .ok (.iastore, 1) := by decide +kernel
theorem dX12_tickOnce_11 : decode cX12_tickOnce 11 = .ok (.iconst 0, 1) := by decide +kernel
theorem dX12_tickOnce_12 : decode cX12_tickOnce 12 = .ok (.istore_n 1, 1) := by decide +kernel
theorem dX12_tickOnce_13 : decode cX12_tickOnce 13 = .ok (.iload_n 1, 1) := by decide +kernel
theorem dX12_tickOnce_14 : decode cX12_tickOnce 14 = .ok (.aload_n 0, 1) := by decide +kernel
theorem dX12_tickOnce_15 : decode cX12_tickOnce 15 = .ok (.getfield 7, 3) := by decide +kernel
theorem dX12_tickOnce_18 : decode cX12_tickOnce 18 = .ok (.iconst 0, 1) := by decide +kernel
theorem dX12_tickOnce_19 : decode cX12_tickOnce 19 = .ok (.iaload, 1) := by decide +kernel
theorem dX12_tickOnce_20 : decode cX12_tickOnce 20 = .ok (.if_icmp .ge 60, 3) := by decide +kernel
theorem dX12_tickOnce_23 : decode cX12_tickOnce 23 = .ok (.aload_n 0, 1) := by decide +kernel
theorem dX12_tickOnce_24 : decode cX12_tickOnce 24 = .ok (.getfield 7, 3) := by decide +kernel
theorem dX12_tickOnce_27 : decode cX12_tickOnce 27 = .ok (.bipush 10, 2) := by decide +kernel
theorem dX12_tickOnce_29 : decode cX12_tickOnce 29 = .ok (.iload_n 1, 1) := by decide +kernel
theorem dX12_tickOnce_30 : decode cX12_tickOnce 30 = .ok (.iadd, 1) := by decide +kernel
theorem dX12_tickOnce_31 : decode cX12_tickOnce 31 = .ok (.iaload, 1) := by decide +kernel
theorem dX12_tickOnce_32 : decode cX12_tickOnce 32 = .ok (.iconst 2, 1) := by decide +kernel
theorem dX12_tickOnce_33 : decode cX12_tickOnce 33 = .ok (.if_icmp .ne 41, 3) := by decide +kernel
theorem dX12_tickOnce_36 : decode cX12_tickOnce 36 = .ok (.aload_n 0, 1) := by decide +kernel
theorem dX12_tickOnce_37 : decode cX12_tickOnce 37 = .ok (.getfield 7, 3) := by decide +kernel
theorem dX12_tickOnce_40 : decode cX12_tickOnce 40 = .ok (.bipush 34, 2) := by decide +kernel
theorem dX12_tickOnce_42 : decode cX12_tickOnce 42 = .ok (.iload_n 1, 1) := by decide +kernel
theorem dX12_tickOnce_43 : decode cX12_tickOnce 43 = .ok (.iadd, 1) := by decide +kernel
theorem dX12_tickOnce_44 : decode cX12_tickOnce 44 = .ok (.iaload, 1) := by decide +kernel
theorem dX12_tickOnce_45 : decode cX12_tickOnce 45 = .ok (.ifCond .le 29, 3) := by decide +kernel
theorem dX12_tickOnce_48 : decode cX12_tickOnce 48 = .ok (.aload_n 0, 1) := by decide +kernel
theorem dX12_tickOnce_49 : decode cX12_tickOnce 49 = .ok (.getfield 7, 3) := by decide +kernel
theorem dX12_tickOnce_52 : decode cX12_tickOnce 52 = .ok (.bipush 34, 2) := by decide +kernel
theorem dX12_tickOnce_54 : decode cX12_tickOnce 54 = .ok (.iload_n 1, 1) := by decide +kernel
theorem dX12_tickOnce_55 : decode cX12_tickOnce 55 = .ok (.iadd, 1) := by decide +kernel
theorem dX12_tickOnce_56 : decode cX12_tickOnce 56 = .ok (.iaload, 1) := by decide +kernel
theorem dX12_tickOnce_57 : decode cX12_tickOnce 57 = .ok (.aload_n 0, 1) := by decide +kernel
theorem dX12_tickOnce_58 : decode cX12_tickOnce 58 = .ok (.getfield 7, 3) := by decide +kernel
theorem dX12_tickOnce_61 : decode cX12_tickOnce 61 = .ok (.bipush 9, 2) := by decide +kernel
theorem dX12_tickOnce_63 : decode cX12_tickOnce 63 = .ok (.iaload, 1) := by decide +kernel
theorem dX12_tickOnce_64 : decode cX12_tickOnce 64 = .ok (.if_icmp .gt 10, 3) := by decide +kernel
theorem dX12_tickOnce_67 : decode cX12_tickOnce 67 = .ok (.aload_n 0, 1) := by decide +kernel
theorem dX12_tickOnce_68 : decode cX12_tickOnce 68 = .ok (.iload_n 1, 1) := by decide +kernel
theorem dX12_tickOnce_69 : decode cX12_tickOnce 69 = .ok (.iconst 2, 1) := by decide +kernel
theorem dX12_tickOnce_70 : decode cX12_tickOnce 70 = .ok (.iconst 0, 1) := by decide +kernel
theorem dX12_tickOnce_71 : decode cX12_tickOnce 71 = .ok (.invokevirtual 120, 3) := by decide +kernel
theorem dX12_tickOnce_74 : decode cX12_tickOnce 74 = .ok (.iinc 1 1, 3) := by decide +kernel
theorem dX12_tickOnce_77 : decode cX12_tickOnce 77 = .ok (.goto (-64), 3) := by decide +kernel
theorem dX12_tickOnce_80 : decode cX12_tickOnce 80 = .ok (.iconst 0, 1) := by decide +kernel
theorem dX12_tickOnce_81 : decode cX12_tickOnce 81 = .ok (.istore_n 1, 1) := by decide +kernel
theorem dX12_tickOnce_82 : decode cX12_tickOnce 82 = .ok (.iload_n 1, 1) := by decide +kernel
theorem dX12_tickOnce_83 : decode cX12_tickOnce 83 = .ok (.bipush 8, 2) := by decide +kernel
theorem dX12_tickOnce_85 : decode cX12_tickOnce 85 = .ok (.if_icmp .ge 59, 3) := by decide +kernel
theorem dX12_tickOnce_88 : decode cX12_tickOnce 88 = .ok (.aload_n 0, 1) := by decide +kernel
theorem dX12_tickOnce_89 : decode cX12_tickOnce 89 = .ok (.getfield 7, 3) := by decide +kernel
theorem dX12_tickOnce_92 : decode cX12_tickOnce 92 = .ok (.bipush 46, 2) := by decide +kernel
theorem dX12_tickOnce_94 : decode cX12_tickOnce 94 = .ok (.iload_n 1, 1) := by decide +kernel
theorem dX12_tickOnce_95 : decode cX12_tickOnce 95 = .ok (.iadd, 1) := by decide +kernel
theorem dX12_tickOnce_96 : decode cX12_tickOnce 96 = .ok (.iaload, 1) := by decide +kernel
theorem dX12_tickOnce_97 : decode cX12_tickOnce 97 = .ok (.iconst 4, 1) := by decide +kernel
theorem dX12_tickOnce_98 : decode cX12_tickOnce 98 = .ok (.if_icmp .ne 40, 3) := by decide +kernel
theorem dX12_tickOnce_101 : decode cX12_tickOnce 101 = .ok (.aload_n 0, 1) := by decide +kernel
theorem dX12_tickOnce_102 : decode cX12_tickOnce 102 = .ok (.iload_n 1, 1) := by decide +kernel
theorem dX12_tickOnce_103 : decode cX12_tickOnce 103 = .ok (.invokevirtual 54, 3) := by decide +kernel
theorem dX12_tickOnce_106 : decode cX12_tickOnce 106 = .ok (.ifCond .ne 32, 3) := by decide +kernel
theorem dX12_tickOnce_109 : decode cX12_tickOnce 109 = .ok (.aload_n 0, 1) := by decide +kernel
theorem dX12_tickOnce_110 : decode cX12_tickOnce 110 = .ok (.getfield 7, 3) := by decide +kernel
theorem dX12_tickOnce_113 : decode cX12_tickOnce 113 = .ok (.bipush 110, 2) := by decide +kernel
theorem dX12_tickOnce_115 : decode cX12_tickOnce 115 = .ok (.iload_n 1, 1) := by decide +kernel
theorem dX12_tickOnce_116 : decode cX12_tickOnce 116 = .ok (.iadd, 1) := by decide +kernel
theorem dX12_tickOnce_117 : decode cX12_tickOnce 117 = .ok (.iaload, 1) := by decide +kernel
theorem dX12_tickOnce_118 : decode cX12_tickOnce 118 = .ok (.ifCond .le 20, 3) := by decide +kernel
theorem dX12_tickOnce_121 : decode cX12_tickOnce 121 = .ok (.aload_n 0, 1) := by decide +kernel
theorem dX12_tickOnce_122 : decode cX12_tickOnce 122 = .ok (.getfield 7, 3) := by decide +kernel
theorem dX12_tickOnce_125 : decode cX12_tickOnce 125 = .ok (.sipush 236, 3) := by decide +kernel
theorem dX12_tickOnce_128 : decode cX12_tickOnce 128 = .ok (.dup2, 1) := by decide +kernel
theorem dX12_tickOnce_129 : decode cX12_tickOnce 129 = .ok (.iaload, 1) := by decide +kernel
theorem dX12_tickOnce_130 : decode cX12_tickOnce 130 = .ok (.iconst 1, 1) := by decide +kernel
theorem dX12_tickOnce_131 : decode cX12_tickOnce 131 = .ok (.iadd, 1) := by decide +kernel
theorem dX12_tickOnce_132 : decode cX12_tickOnce 132 = .ok (.iastore, 1) := by decide +kernel
theorem dX12_tickOnce_133 : decode cX12_tickOnce 133 = .ok (.aload_n 0, 1) := by decide +kernel
theorem dX12_tickOnce_134 : decode cX12_tickOnce 134 = .ok (.iload_n 1, 1) := by decide +kernel
theorem dX12_tickOnce_135 : decode cX12_tickOnce 135 = .ok (.invokevirtual 78, 3) := by decide +kernel
theorem dX12_tickOnce_138 : decode cX12_tickOnce 138 = .ok (.iinc 1 1, 3) := by decide +kernel
theorem dX12_tickOnce_141 : decode cX12_tickOnce 141 = .ok (.goto (-59), 3) := by decide +kernel
theorem dX12_tickOnce_144 : decode cX12_tickOnce 144 = .ok (.iconst 0, 1) := by decide +kernel
theorem dX12_tickOnce_145 : decode cX12_tickOnce 145 = .ok (.istore_n 1, 1) := by decide +kernel
theorem dX12_tickOnce_146 : decode cX12_tickOnce 146 = .ok (.iload_n 1, 1) := by decide +kernel
theorem dX12_tickOnce_147 : decode cX12_tickOnce 147 = .ok (.bipush 8, 2) := by decide +kernel
theorem dX12_tickOnce_149 : decode cX12_tickOnce 149 = .ok (.if_icmp .ge 49, 3) := by decide +kernel
theorem dX12_tickOnce_152 : decode cX12_tickOnce 152 = .ok (.aload_n 0, 1) := by decide +kernel
theorem dX12_tickOnce_153 : decode cX12_tickOnce 153 = .ok (.iload_n 1, 1) := by decide +kernel
theorem dX12_tickOnce_154 : decode cX12_tickOnce 154 = .ok (.invokevirtual 58, 3) := by decide +kernel
theorem dX12_tickOnce_157 : decode cX12_tickOnce 157 = .ok (.ifCond .eq 35, 3) := by decide +kernel
theorem dX12_tickOnce_160 : decode cX12_tickOnce 160 = .ok (.aload_n 0, 1) := by decide +kernel
theorem dX12_tickOnce_161 : decode cX12_tickOnce 161 = .ok (.getfield 7, 3) := by decide +kernel
theorem dX12_tickOnce_164 : decode cX12_tickOnce 164 = .ok (.bipush 9, 2) := by decide +kernel
theorem dX12_tickOnce_166 : decode cX12_tickOnce 166 = .ok (.iaload, 1) := by decide +kernel
theorem dX12_tickOnce_167 : decode cX12_tickOnce 167 = .ok (.aload_n 0, 1) := by decide +kernel
theorem dX12_tickOnce_168 : decode cX12_tickOnce 168 = .ok (.getfield 7, 3) := by decide +kernel
theorem dX12_tickOnce_171 : decode cX12_tickOnce 171 = .ok (.bipush 102, 2) := by decide +kernel
theorem dX12_tickOnce_173 : decode cX12_tickOnce 173 = .ok (.iload_n 1, 1) := by decide +kernel
theorem dX12_tickOnce_174 : decode cX12_tickOnce 174 = .ok (.iadd, 1) := by decide +kernel
theorem dX12_tickOnce_175 : decode cX12_tickOnce 175 = .ok (.iaload, 1) := by decide +kernel
theorem dX12_tickOnce_176 : decode cX12_tickOnce 176 = .ok (.isub, 1) := by decide +kernel
theorem dX12_tickOnce_177 : decode cX12_tickOnce 177 = .ok (.aload_n 0, 1) := by decide +kernel
theorem dX12_tickOnce_178 : decode cX12_tickOnce 178 = .ok (.getfield 7, 3) := by decide +kernel
theorem dX12_tickOnce_181 : decode cX12_tickOnce 181 = .ok (.bipush 6, 2) := by decide +kernel
theorem dX12_tickOnce_183 : decode cX12_tickOnce 183 = .ok (.iaload, 1) := by decide +kernel
theorem dX12_tickOnce_184 : decode cX12_tickOnce 184 = .ok (.if_icmp .lt 8, 3) := by decide +kernel
theorem dX12_tickOnce_187 : decode cX12_tickOnce 187 = .ok (.aload_n 0, 1) := by decide +kernel
theorem dX12_tickOnce_188 : decode cX12_tickOnce 188 = .ok (.iload_n 1, 1) := by decide +kernel
theorem dX12_tickOnce_189 : decode cX12_tickOnce 189 = .ok (.invokevirtual 61, 3) := by decide +kernel
theorem dX12_tickOnce_192 : decode cX12_tickOnce 192 = .ok (.iinc 1 1, 3) := by decide +kernel
theorem dX12_tickOnce_195 : decode cX12_tickOnce 195 = .ok (.goto (-49), 3) := by decide +kernel
theorem dX12_tickOnce_198 : decode cX12_tickOnce 198 = .ok (.return_, 1) := by decide +kernel
theorem dX12_tick_0 : decode cX12_tick 0 = .ok (.iload_n 1, 1) := by decide +kernel
theorem dX12_tick_1 : decode cX12_tick 1 = .ok (.iconst 1, 1) := by decide +kernel
theorem dX12_tick_2 : decode cX12_tick 2 = .ok (.bipush 20, 2) := by decide +kernel
theorem dX12_tick_4 : decode cX12_tick 4 = .ok (.invokestatic 35, 3) := by decide +kernel
theorem dX12_tick_7 : decode cX12_tick 7 = .ok (.ifCond .ne 6, 3) := by decide +kernel
theorem dX12_tick_10 : decode cX12_tick 10 = .ok (.bipush (-3), 2) := by decide +kernel
theorem dX12_tick_12 : decode cX12_tick 12 = .ok (.ireturn, 1) := by decide +kernel
theorem dX12_tick_13 : decode cX12_tick 13 = .ok (.aload_n 0, 1) := by decide +kernel
theorem dX12_tick_14 : decode cX12_tick 14 = .ok (.getfield 7, 3) := by decide +kernel
theorem dX12_tick_17 : decode cX12_tick 17 = .ok (.sipush 236, 3) := by decide +kernel
theorem dX12_tick_20 : decode cX12_tick 20 = .ok (.iaload, 1) := by decide +kernel
theorem dX12_tick_21 : decode cX12_tick 21 = .ok (.istore_n 2, 1) := by decide +kernel
theorem dX12_tick_22 : decode cX12_tick 22 = .ok (.iconst 0, 1) := by decide +kernel
theorem dX12_tick_23 : decode cX12_tick 23 = .ok (.istore_n 3, 1) := by decide +kernel
theorem dX12_tick_24 : decode cX12_tick 24 = .ok (.iload_n 3, 1) := by decide +kernel
theorem dX12_tick_25 : decode cX12_tick 25 = .ok (.iload_n 1, 1) := by decide +kernel
theorem dX12_tick_26 : decode cX12_tick 26 = .ok (.if_icmp .ge 13, 3) := by decide +kernel
theorem dX12_tick_29 : decode cX12_tick 29 = .ok (.aload_n 0, 1) := by decide +kernel
theorem dX12_tick_30 : decode cX12_tick 30 = .ok (.invokevirtual 124, 3) := by decide +kernel
theorem dX12_tick_33 : decode cX12_tick 33 = .ok (.iinc 3 1, 3) := by decide +kernel
theorem dX12_tick_36 : decode cX12_tick 36 = .ok (.goto (-12), 3) := by decide +kernel
theorem dX12_tick_39 : decode cX12_tick 39 = .ok (.aload_n 0, 1) := by decide +kernel
theorem dX12_tick_40 : decode cX12_tick 40 = .ok (.bipush 9, 2) := by decide +kernel
theorem dX12_tick_42 : decode cX12_tick 42 = .ok (.iload_n 1, 1) := by decide +kernel
theorem dX12_tick_43 : decode cX12_tick 43 = .ok (.iconst 0, 1) := by decide +kernel
theorem dX12_tick_44 : decode cX12_tick 44 = .ok (.iconst 0, 1) := by decide +kernel
theorem dX12_tick_45 : decode cX12_tick 45 = .ok (.invokevirtual 110, 3) := by decide +kernel
theorem dX12_tick_48 : decode cX12_tick 48 = .ok (.aload_n 0, 1) := by decide +kernel
theorem dX12_tick_49 : decode cX12_tick 49 = .ok (.getfield 7, 3) := by decide +kernel
theorem dX12_tick_52 : decode cX12_tick 52 = .ok (.sipush 236, 3) := by decide +kernel
theorem dX12_tick_55 : decode cX12_tick 55 = .ok (.iaload, 1) := by decide +kernel
theorem dX12_tick_56 : decode cX12_tick 56 = .ok (.iload_n 2, 1) := by decide +kernel
theorem dX12_tick_57 : decode cX12_tick 57 = .ok (.isub, 1) := by decide +kernel
theorem dX12_tick_58 : decode cX12_tick 58 = .ok (.ireturn, 1) := by decide +kernel
theorem dX12_threads_0 : decode cX12_threads 0 = .ok (.aload_n 0, 1) := by decide +kernel
theorem dX12_threads_1 : decode cX12_threads 1 = .ok (.getfield 7, 3) := by decide +kernel
theorem dX12_threads_4 : decode cX12_threads 4 = .ok (.iconst 0, 1) := by decide +kernel
theorem dX12_threads_5 : decode cX12_threads 5 = .ok (.iaload, 1) := by decide +kernel
theorem dX12_threads_6 : decode cX12_threads 6 = .ok (.ireturn, 1) := by decide +kernel
theorem dX12_threadState_0 : decode cX12_threadState 0 = .ok (.aload_n 0, 1) := by decide +kernel
theorem dX12_threadState_1 : decode cX12_threadState 1 = .ok (.iload_n 1, 1) := by decide +kernel
theorem dX12_threadState_2 : decode cX12_threadState 2 = .ok (.invokevirtual 101, 3) := by decide +kernel
theorem dX12_threadState_5 : decode cX12_threadState 5 = .ok (.ifCond .eq 28, 3) := by decide +kernel
theorem dX12_threadState_8 : decode cX12_threadState 8 = .ok (.aload_n 0, 1) := by decide +kernel
theorem dX12_threadState_9 : decode cX12_threadState 9 = .ok (.getfield 7, 3) := by decide +kernel
theorem dX12_threadState_12 : decode cX12_threadState 12 = .ok (.bipush 10, 2) := by decide +kernel
theorem dX12_threadState_14 : decode cX12_threadState 14 = .ok (.iload_n 1, 1) := by decide +kernel
theorem dX12_threadState_15 : decode cX12_threadState 15 = .ok (.iadd, 1) := by decide +kernel
theorem dX12_threadState_16 : decode cX12_threadState 16 = .ok (.iaload, 1) := by decide +kernel
theorem dX12_threadState_17 : decode cX12_threadState 17 = .ok (.bipush 10, 2) := by decide +kernel
theorem dX12_threadState_19 : decode cX12_threadState 19 = .ok (.aload_n 0, 1) := by decide +kernel
theorem dX12_threadState_20 : decode cX12_threadState 20 = .ok (.getfield 7, 3) := by decide +kernel
theorem dX12_threadState_23 : decode cX12_threadState 23 = .ok (.bipush 16, 2) := by decide +kernel
theorem dX12_threadState_25 : decode cX12_threadState 25 = .ok (.iload_n 1, 1) := by decide +kernel
theorem dX12_threadState_26 : decode cX12_threadState 26 = .ok (.iadd, 1) := by decide +kernel
theorem dX12_threadState_27 : decode cX12_threadState 27 = .ok (.iaload, 1) := by decide +kernel
theorem dX12_threadState_28 : decode cX12_threadState 28 = .ok (.imul, 1) := by decide +kernel
theorem dX12_threadState_29 : decode cX12_threadState 29 = .ok (.iadd, 1) := by decide +kernel
theorem dX12_threadState_30 : decode cX12_threadState 30 = .ok (.goto 4, 3) := by decide +kernel
theorem dX12_threadState_33 : decode cX12_threadState 33 = .ok (.iconst (-1), 1) := by decide +kernel
theorem dX12_threadState_34 : decode cX12_threadState 34 = .ok (.ireturn, 1) := by decide +kernel
theorem dX12_threadAt_0 : decode cX12_threadAt 0 = .ok (.aload_n 0, 1) := by decide +kernel
theorem dX12_threadAt_1 : decode cX12_threadAt 1 = .ok (.iload_n 1, 1) := by decide +kernel
theorem dX12_threadAt_2 : decode cX12_threadAt 2 = .ok (.invokevirtual 101, 3) := by decide +kernel
theorem dX12_threadAt_5 : decode cX12_threadAt 5 = .ok (.ifCond .eq 15, 3) := by decide +kernel
theorem dX12_threadAt_8 : decode cX12_threadAt 8 = .ok (.aload_n 0, 1) := by decide +kernel
theorem dX12_threadAt_9 : decode cX12_threadAt 9 = .ok (.getfield 7, 3) := by decide +kernel
theorem dX12_threadAt_12 : decode cX12_threadAt 12 = .ok (.bipush 28, 2) := by decide +kernel
theorem dX12_threadAt_14 : decode cX12_threadAt 14 = .ok (.iload_n 1, 1) := by decide +kernel
theorem dX12_threadAt_15 : decode cX12_threadAt 15 = .ok (.iadd, 1) := by decide +kernel
theorem dX12_threadAt_16 : decode cX12_threadAt 16 = .ok (.iaload, 1) := by decide +kernel
theorem dX12_threadAt_17 : decode cX12_threadAt 17 = .ok (.goto 4, 3) := by decide +kernel
theorem dX12_threadAt_20 : decode cX12_threadAt 20 = .ok (.iconst (-1), 1) := by decide +kernel
theorem dX12_threadAt_21 : decode cX12_threadAt 21 = .ok (.ireturn, 1) := by decide +kernel
theorem dX12_held_0 : decode cX12_held 0 = .ok (.aload_n 0, 1) := by decide +kernel
theorem dX12_held_1 : decode cX12_held 1 = .ok (.iload_n 1, 1) := by decide +kernel
theorem dX12_held_2 : decode cX12_held 2 = .ok (.invokevirtual 101, 3) := by decide +kernel
theorem dX12_held_5 : decode cX12_held 5 = .ok (.ifCond .ne 5, 3) := by decide +kernel
theorem dX12_held_8 : decode cX12_held 8 = .ok (.iconst (-1), 1) := by decide +kernel
theorem dX12_held_9 : decode cX12_held 9 = .ok (.ireturn, 1) := by decide +kernel
theorem dX12_held_10 : decode cX12_held 10 = .ok (.iconst 0, 1) := by decide +kernel
theorem dX12_held_11 : decode cX12_held 11 = .ok (.istore_n 2, 1) := by decide +kernel
theorem dX12_held_12 : decode cX12_held 12 = .ok (.iconst 0, 1) := by decide +kernel
theorem dX12_held_13 : decode cX12_held 13 = .ok (.istore_n 3, 1) := by decide +kernel
theorem dX12_held_14 : decode cX12_held 14 = .ok (.iload_n 3, 1) := by decide +kernel
theorem dX12_held_15 : decode cX12_held 15 = .ok (.bipush 8, 2) := by decide +kernel
theorem dX12_held_17 : decode cX12_held 17 = .ok (.if_icmp .ge 40, 3) := by decide +kernel
theorem dX12_held_20 : decode cX12_held 20 = .ok (.iload_n 2, 1) := by decide +kernel
theorem dX12_held_21 : decode cX12_held 21 = .ok (.aload_n 0, 1) := by decide +kernel
theorem dX12_held_22 : decode cX12_held 22 = .ok (.iload_n 3, 1) := by decide +kernel
theorem dX12_held_23 : decode cX12_held 23 = .ok (.invokevirtual 54, 3) := by decide +kernel
theorem dX12_held_26 : decode cX12_held 26 = .ok (.ifCond .eq 22, 3) := by decide +kernel
theorem dX12_held_29 : decode cX12_held 29 = .ok (.aload_n 0, 1) := by decide +kernel
theorem dX12_held_30 : decode cX12_held 30 = .ok (.getfield 7, 3) := by decide +kernel
theorem dX12_held_33 : decode cX12_held 33 = .ok (.bipush 54, 2) := by decide +kernel
theorem dX12_held_35 : decode cX12_held 35 = .ok (.iload_n 3, 1) := by decide +kernel
theorem dX12_held_36 : decode cX12_held 36 = .ok (.iadd, 1) := by decide +kernel
theorem dX12_held_37 : decode cX12_held 37 = .ok (.iaload, 1) := by decide +kernel
theorem dX12_held_38 : decode cX12_held 38 = .ok (.iload_n 1, 1) := by decide +kernel
theorem dX12_held_39 : decode cX12_held 39 = .ok (.if_icmp .ne 9, 3) := by decide +kernel
theorem dX12_held_42 : decode cX12_held 42 = .ok (.iconst 1, 1) := by decide +kernel
theorem dX12_held_43 : decode cX12_held 43 = .ok (.iload_n 3, 1) := by decide +kernel
theorem dX12_held_44 : decode cX12_held 44 = .ok (.ishl, 1) := by decide +kernel
theorem dX12_held_45 : decode cX12_held 45 = .ok (.goto 4, 3) := by decide +kernel
theorem dX12_held_48 : decode cX12_held 48 = .ok (.iconst 0, 1) := by decide +kernel
theorem dX12_held_49 : decode cX12_held 49 = .ok (.ior, 1) := by decide +kernel
theorem dX12_held_50 : decode cX12_held 50 = .ok (.istore_n 2, 1) := by decide +kernel
theorem dX12_held_51 : decode cX12_held 51 = .ok (.iinc 3 1, 3) := by decide +kernel
theorem dX12_held_54 : decode cX12_held 54 = .ok (.goto (-40), 3) := by decide +kernel
theorem dX12_held_57 : decode cX12_held 57 = .ok (.iload_n 2, 1) := by decide +kernel
theorem dX12_held_58 : decode cX12_held 58 = .ok (.ireturn, 1) := by decide +kernel
theorem dX12_waitEnd_0 : decode cX12_waitEnd 0 = .ok (.aload_n 0, 1) := by decide +kernel
theorem dX12_waitEnd_1 : decode cX12_waitEnd 1 = .ok (.iload_n 1, 1) := by decide +kernel
theorem dX12_waitEnd_2 : decode cX12_waitEnd 2 = .ok (.invokevirtual 101, 3) := by decide +kernel
theorem dX12_waitEnd_5 : decode cX12_waitEnd 5 = .ok (.ifCond .eq 15, 3) := by decide +kernel
theorem dX12_waitEnd_8 : decode cX12_waitEnd 8 = .ok (.aload_n 0, 1) := by decide +kernel
theorem dX12_waitEnd_9 : decode cX12_waitEnd 9 = .ok (.getfield 7, 3) := by decide +kernel
theorem dX12_waitEnd_12 : decode cX12_waitEnd 12 = .ok (.bipush 22, 2) := by decide +kernel
theorem dX12_waitEnd_14 : decode cX12_waitEnd 14 = .ok (.iload_n 1, 1) := by decide +kernel
theorem dX12_waitEnd_15 : decode cX12_waitEnd 15 = .ok (.iadd, 1) := by decide +kernel
theorem dX12_waitEnd_16 : decode cX12_waitEnd 16 = .ok (.iaload, 1) := by decide +kernel
theorem dX12_waitEnd_17 : decode cX12_waitEnd 17 = .ok (.goto 4, 3) := by decide +kernel
theorem dX12_waitEnd_20 : decode cX12_waitEnd 20 = .ok (.iconst (-1), 1) := by decide +kernel
theorem dX12_waitEnd_21 : decode cX12_waitEnd 21 = .ok (.ireturn, 1) := by decide +kernel
theorem dX12_waitsFor_0 : decode cX12_waitsFor 0 = .ok (.aload_n 0, 1) := by decide +kernel
theorem dX12_waitsFor_1 : decode cX12_waitsFor 1 = .ok (.getfield 7, 3) := by decide +kernel
theorem dX12_waitsFor_4 : decode cX12_waitsFor 4 = .ok (.bipush 10, 2) := by decide +kernel
theorem dX12_waitsFor_6 : decode cX12_waitsFor 6 = .ok (.iload_n 1, 1) := by decide +kernel
theorem dX12_waitsFor_7 : decode cX12_waitsFor 7 = .ok (.iadd, 1) := by decide +kernel
theorem dX12_waitsFor_8 : decode cX12_waitsFor 8 = .ok (.iaload, 1) := by decide +kernel
theorem dX12_waitsFor_9 : decode cX12_waitsFor 9 = .ok (.iconst 1, 1) := by decide +kernel
theorem dX12_waitsFor_10 : decode cX12_waitsFor 10 = .ok (.if_icmp .ne 19, 3) := by decide +kernel
theorem dX12_waitsFor_13 : decode cX12_waitsFor 13 = .ok (.aload_n 0, 1) := by decide +kernel
theorem dX12_waitsFor_14 : decode cX12_waitsFor 14 = .ok (.aload_n 0, 1) := by decide +kernel
theorem dX12_waitsFor_15 : decode cX12_waitsFor 15 = .ok (.getfield 7, 3) := by decide +kernel
theorem dX12_waitsFor_18 : decode cX12_waitsFor 18 = .ok (.bipush 28, 2) := by decide +kernel
theorem dX12_waitsFor_20 : decode cX12_waitsFor 20 = .ok (.iload_n 1, 1) := by decide +kernel
theorem dX12_waitsFor_21 : decode cX12_waitsFor 21 = .ok (.iadd, 1) := by decide +kernel
theorem dX12_waitsFor_22 : decode cX12_waitsFor 22 = .ok (.iaload, 1) := by decide +kernel
theorem dX12_waitsFor_23 : decode cX12_waitsFor 23 = .ok (.invokevirtual 54, 3) := by decide +kernel
theorem dX12_waitsFor_26 : decode cX12_waitsFor 26 = .ok (.ifCond .ne 5, 3) := by decide +kernel
theorem dX12_waitsFor_29 : decode cX12_waitsFor 29 = .ok (.iconst (-1), 1) := by decide +kernel
theorem dX12_waitsFor_30 : decode cX12_waitsFor 30 = .ok (.ireturn, 1) := by decide +kernel
theorem dX12_waitsFor_31 : decode cX12_waitsFor 31 = .ok (.aload_n 0, 1) := by decide +kernel
theorem dX12_waitsFor_32 : decode cX12_waitsFor 32 = .ok (.getfield 7, 3) := by decide +kernel
theorem dX12_waitsFor_35 : decode cX12_waitsFor 35 = .ok (.bipush 54, 2) := by decide +kernel
theorem dX12_waitsFor_37 : decode cX12_waitsFor 37 = .ok (.aload_n 0, 1) := by decide +kernel
theorem dX12_waitsFor_38 : decode cX12_waitsFor 38 = .ok (.getfield 7, 3) := by decide +kernel
theorem dX12_waitsFor_41 : decode cX12_waitsFor 41 = .ok (.bipush 28, 2) := by decide +kernel
theorem dX12_waitsFor_43 : decode cX12_waitsFor 43 = .ok (.iload_n 1, 1) := by decide +kernel
theorem dX12_waitsFor_44 : decode cX12_waitsFor 44 = .ok (.iadd, 1) := by decide +kernel
theorem dX12_waitsFor_45 : decode cX12_waitsFor 45 = .ok (.iaload, 1) := by decide +kernel
theorem dX12_waitsFor_46 : decode cX12_waitsFor 46 = .ok (.iadd, 1) := by decide +kernel
theorem dX12_waitsFor_47 : decode cX12_waitsFor 47 = .ok (.iaload, 1) := by decide +kernel
theorem dX12_waitsFor_48 : decode cX12_waitsFor 48 = .ok (.ireturn, 1) := by decide +kernel
theorem dX12_deadlocked_0 : decode cX12_deadlocked 0 = .ok (.iconst 0, 1) := by decide +kernel
theorem dX12_deadlocked_1 : decode cX12_deadlocked 1 = .ok (.istore_n 1, 1) := by decide +kernel
theorem dX12_deadlocked_2 : decode cX12_deadlocked 2 = .ok (.iconst 0, 1) := by decide +kernel
theorem dX12_deadlocked_3 : decode cX12_deadlocked 3 = .ok (.istore_n 2, 1) := by decide +kernel
theorem dX12_deadlocked_4 : decode cX12_deadlocked 4 = .ok (.iload_n 2, 1) := by decide +kernel
theorem dX12_deadlocked_5 : decode cX12_deadlocked 5 = .ok (.aload_n 0, 1) := by decide +kernel
theorem dX12_deadlocked_6 : decode cX12_deadlocked 6 = .ok (.getfield 7, 3) := by decide +kernel
theorem dX12_deadlocked_9 : decode cX12_deadlocked 9 = .ok (.iconst 0, 1) := by decide +kernel
theorem dX12_deadlocked_10 : decode cX12_deadlocked 10 = .ok (.iaload, 1) := by decide +kernel
theorem dX12_deadlocked_11 : decode cX12_deadlocked 11 = .ok (.if_icmp .ge 61, 3) := by decide +kernel
theorem dX12_deadlocked_14 : decode cX12_deadlocked 14 = .ok (.aload_n 0, 1) := by decide +kernel
theorem dX12_deadlocked_15 : decode cX12_deadlocked 15 = .ok (.iload_n 2, 1) := by decide +kernel
theorem dX12_deadlocked_16 : decode cX12_deadlocked 16 = .ok (.invokevirtual 127, 3) := by decide +kernel
theorem dX12_deadlocked_19 : decode cX12_deadlocked 19 = .ok (.istore_n 3, 1) := by decide +kernel
theorem dX12_deadlocked_20 : decode cX12_deadlocked 20 = .ok (.iconst 0, 1) := by decide +kernel
theorem dX12_deadlocked_21 : decode cX12_deadlocked 21 = .ok (.istore 4, 2) := by decide +kernel
theorem dX12_deadlocked_23 : decode cX12_deadlocked 23 = .ok (.iload 4, 2) := by decide +kernel
theorem dX12_deadlocked_25 : decode cX12_deadlocked 25 = .ok (.bipush 6, 2) := by decide +kernel
theorem dX12_deadlocked_27 : decode cX12_deadlocked 27 = .ok (.if_icmp .ge 24, 3) := by decide +kernel
theorem dX12_deadlocked_30 : decode cX12_deadlocked 30 = .ok (.iload_n 3, 1) := by decide +kernel
theorem dX12_deadlocked_31 : decode cX12_deadlocked 31 = .ok (.ifCond .lt 20, 3) := by decide +kernel
theorem dX12_deadlocked_34 : decode cX12_deadlocked 34 = .ok (.iload_n 3, 1) := by decide +kernel
theorem dX12_deadlocked_35 : decode cX12_deadlocked 35 = .ok (.iload_n 2, 1) := by decide +kernel
theorem dX12_deadlocked_36 : decode cX12_deadlocked 36 = .ok (.if_icmp .eq 15, 3) := by decide +kernel
theorem dX12_deadlocked_39 : decode cX12_deadlocked 39 = .ok (.aload_n 0, 1) := by decide +kernel
theorem dX12_deadlocked_40 : decode cX12_deadlocked 40 = .ok (.iload_n 3, 1) := by decide +kernel
theorem dX12_deadlocked_41 : decode cX12_deadlocked 41 = .ok (.invokevirtual 127, 3) := by decide +kernel
theorem dX12_deadlocked_44 : decode cX12_deadlocked 44 = .ok (.istore_n 3, 1) := by decide +kernel
theorem dX12_deadlocked_45 : decode cX12_deadlocked 45 = .ok (.iinc 4 1, 3) := by decide +kernel
theorem dX12_deadlocked_48 : decode cX12_deadlocked 48 = .ok (.goto (-25), 3) := by decide +kernel
theorem dX12_deadlocked_51 : decode cX12_deadlocked 51 = .ok (.iload_n 1, 1) := by decide +kernel
theorem dX12_deadlocked_52 : decode cX12_deadlocked 52 = .ok (.iload_n 3, 1) := by decide +kernel
theorem dX12_deadlocked_53 : decode cX12_deadlocked 53 = .ok (.iload_n 2, 1) := by decide +kernel
theorem dX12_deadlocked_54 : decode cX12_deadlocked 54 = .ok (.if_icmp .ne 9, 3) := by decide +kernel
theorem dX12_deadlocked_57 : decode cX12_deadlocked 57 = .ok (.iconst 1, 1) := by decide +kernel
theorem dX12_deadlocked_58 : decode cX12_deadlocked 58 = .ok (.iload_n 2, 1) := by decide +kernel
theorem dX12_deadlocked_59 : decode cX12_deadlocked 59 = .ok (.ishl, 1) := by decide +kernel
theorem dX12_deadlocked_60 : decode cX12_deadlocked 60 = .ok (.goto 4, 3) := by decide +kernel
theorem dX12_deadlocked_63 : decode cX12_deadlocked 63 = .ok (.iconst 0, 1) := by decide +kernel
theorem dX12_deadlocked_64 : decode cX12_deadlocked 64 = .ok (.ior, 1) := by decide +kernel
theorem dX12_deadlocked_65 : decode cX12_deadlocked 65 = .ok (.istore_n 1, 1) := by decide +kernel
theorem dX12_deadlocked_66 : decode cX12_deadlocked 66 = .ok (.iinc 2 1, 3) := by decide +kernel
theorem dX12_deadlocked_69 : decode cX12_deadlocked 69 = .ok (.goto (-65), 3) := by decide +kernel
theorem dX12_deadlocked_72 : decode cX12_deadlocked 72 = .ok (.iload_n 1, 1) := by decide +kernel
theorem dX12_deadlocked_73 : decode cX12_deadlocked 73 = .ok (.ireturn, 1) := by decide +kernel
theorem dX12_lockState_0 : decode cX12_lockState 0 = .ok (.iload_n 1, 1) := by decide +kernel
theorem dX12_lockState_1 : decode cX12_lockState 1 = .ok (.invokestatic 104, 3) := by decide +kernel
theorem dX12_lockState_4 : decode cX12_lockState 4 = .ok (.ifCond .eq 28, 3) := by decide +kernel
theorem dX12_lockState_7 : decode cX12_lockState 7 = .ok (.aload_n 0, 1) := by decide +kernel
theorem dX12_lockState_8 : decode cX12_lockState 8 = .ok (.getfield 7, 3) := by decide +kernel
theorem dX12_lockState_11 : decode cX12_lockState 11 = .ok (.bipush 46, 2) := by decide +kernel
theorem dX12_lockState_13 : decode cX12_lockState 13 = .ok (.iload_n 1, 1) := by decide +kernel
theorem dX12_lockState_14 : decode cX12_lockState 14 = .ok (.iadd, 1) := by decide +kernel
theorem dX12_lockState_15 : decode cX12_lockState 15 = .ok (.iaload, 1) := by decide +kernel
theorem dX12_lockState_16 : decode cX12_lockState 16 = .ok (.bipush 10, 2) := by decide +kernel
theorem dX12_lockState_18 : decode cX12_lockState 18 = .ok (.aload_n 0, 1) := by decide +kernel
theorem dX12_lockState_19 : decode cX12_lockState 19 = .ok (.getfield 7, 3) := by decide +kernel
theorem dX12_lockState_22 : decode cX12_lockState 22 = .ok (.bipush 86, 2) := by decide +kernel
theorem dX12_lockState_24 : decode cX12_lockState 24 = .ok (.iload_n 1, 1) := by decide +kernel
theorem dX12_lockState_25 : decode cX12_lockState 25 = .ok (.iadd, 1) := by decide +kernel
theorem dX12_lockState_26 : decode cX12_lockState 26 = .ok (.iaload, 1) := by decide +kernel
theorem dX12_lockState_27 : decode cX12_lockState 27 = .ok (.imul, 1) := by decide +kernel
theorem dX12_lockState_28 : decode cX12_lockState 28 = .ok (.iadd, 1) := by decide +kernel
theorem dX12_lockState_29 : decode cX12_lockState 29 = .ok (.goto 5, 3) := by decide +kernel
theorem dX12_lockState_32 : decode cX12_lockState 32 = .ok (.bipush (-2), 2) := by decide +kernel
theorem dX12_lockState_34 : decode cX12_lockState 34 = .ok (.ireturn, 1) := by decide +kernel
theorem dX12_owner_0 : decode cX12_owner 0 = .ok (.iload_n 1, 1) := by decide +kernel
theorem dX12_owner_1 : decode cX12_owner 1 = .ok (.invokestatic 104, 3) := by decide +kernel
theorem dX12_owner_4 : decode cX12_owner 4 = .ok (.ifCond .ne 6, 3) := by decide +kernel
theorem dX12_owner_7 : decode cX12_owner 7 = .ok (.bipush (-2), 2) := by decide +kernel
theorem dX12_owner_9 : decode cX12_owner 9 = .ok (.ireturn, 1) := by decide +kernel
theorem dX12_owner_10 : decode cX12_owner 10 = .ok (.aload_n 0, 1) := by decide +kernel
theorem dX12_owner_11 : decode cX12_owner 11 = .ok (.iload_n 1, 1) := by decide +kernel
theorem dX12_owner_12 : decode cX12_owner 12 = .ok (.invokevirtual 54, 3) := by decide +kernel
theorem dX12_owner_15 : decode cX12_owner 15 = .ok (.ifCond .eq 15, 3) := by decide +kernel
theorem dX12_owner_18 : decode cX12_owner 18 = .ok (.aload_n 0, 1) := by decide +kernel
theorem dX12_owner_19 : decode cX12_owner 19 = .ok (.getfield 7, 3) := by decide +kernel
theorem dX12_owner_22 : decode cX12_owner 22 = .ok (.bipush 54, 2) := by decide +kernel
theorem dX12_owner_24 : decode cX12_owner 24 = .ok (.iload_n 1, 1) := by decide +kernel
theorem dX12_owner_25 : decode cX12_owner 25 = .ok (.iadd, 1) := by decide +kernel
theorem dX12_owner_26 : decode cX12_owner 26 = .ok (.iaload, 1) := by decide +kernel
theorem dX12_owner_27 : decode cX12_owner 27 = .ok (.goto 5, 3) := by decide +kernel
theorem dX12_owner_30 : decode cX12_owner 30 = .ok (.bipush (-8), 2) := by decide +kernel
theorem dX12_owner_32 : decode cX12_owner 32 = .ok (.ireturn, 1) := by decide +kernel
theorem dX12_count_0 : decode cX12_count 0 = .ok (.iload_n 1, 1) := by decide +kernel
theorem dX12_count_1 : decode cX12_count 1 = .ok (.invokestatic 104, 3) := by decide +kernel
theorem dX12_count_4 : decode cX12_count 4 = .ok (.ifCond .eq 15, 3) := by decide +kernel
theorem dX12_count_7 : decode cX12_count 7 = .ok (.aload_n 0, 1) := by decide +kernel
theorem dX12_count_8 : decode cX12_count 8 = .ok (.getfield 7, 3) := by decide +kernel
theorem dX12_count_11 : decode cX12_count 11 = .ok (.bipush 62, 2) := by decide +kernel
theorem dX12_count_13 : decode cX12_count 13 = .ok (.iload_n 1, 1) := by decide +kernel
theorem dX12_count_14 : decode cX12_count 14 = .ok (.iadd, 1) := by decide +kernel
theorem dX12_count_15 : decode cX12_count 15 = .ok (.iaload, 1) := by decide +kernel
theorem dX12_count_16 : decode cX12_count 16 = .ok (.goto 5, 3) := by decide +kernel
theorem dX12_count_19 : decode cX12_count 19 = .ok (.bipush (-2), 2) := by decide +kernel
theorem dX12_count_21 : decode cX12_count 21 = .ok (.ireturn, 1) := by decide +kernel
theorem dX12_bias_0 : decode cX12_bias 0 = .ok (.iload_n 1, 1) := by decide +kernel
theorem dX12_bias_1 : decode cX12_bias 1 = .ok (.invokestatic 104, 3) := by decide +kernel
theorem dX12_bias_4 : decode cX12_bias 4 = .ok (.ifCond .ne 6, 3) := by decide +kernel
theorem dX12_bias_7 : decode cX12_bias 7 = .ok (.bipush (-2), 2) := by decide +kernel
theorem dX12_bias_9 : decode cX12_bias 9 = .ok (.ireturn, 1) := by decide +kernel
theorem dX12_bias_10 : decode cX12_bias 10 = .ok (.aload_n 0, 1) := by decide +kernel
theorem dX12_bias_11 : decode cX12_bias 11 = .ok (.getfield 7, 3) := by decide +kernel
theorem dX12_bias_14 : decode cX12_bias 14 = .ok (.bipush 46, 2) := by decide +kernel
theorem dX12_bias_16 : decode cX12_bias 16 = .ok (.iload_n 1, 1) := by decide +kernel
theorem dX12_bias_17 : decode cX12_bias 17 = .ok (.iadd, 1) := by decide +kernel
theorem dX12_bias_18 : decode cX12_bias 18 = .ok (.iaload, 1) := by decide +kernel
theorem dX12_bias_19 : decode cX12_bias 19 = .ok (.iconst 2, 1) := by decide +kernel
theorem dX12_bias_20 : decode cX12_bias 20 = .ok (.if_icmp .eq 8, 3) := by decide +kernel
theorem dX12_bias_23 : decode cX12_bias 23 = .ok (.bipush (-8), 2) := by decide +kernel
theorem dX12_bias_25 : decode cX12_bias 25 = .ok (.goto 27, 3) := by decide +kernel
theorem dX12_bias_28 : decode cX12_bias 28 = .ok (.aload_n 0, 1) := by decide +kernel
theorem dX12_bias_29 : decode cX12_bias 29 = .ok (.getfield 7, 3) := by decide +kernel
theorem dX12_bias_32 : decode cX12_bias 32 = .ok (.bipush 70, 2) := by decide +kernel
theorem dX12_bias_34 : decode cX12_bias 34 = .ok (.iload_n 1, 1) := by decide +kernel
theorem dX12_bias_35 : decode cX12_bias 35 = .ok (.iadd, 1) := by decide +kernel
theorem dX12_bias_36 : decode cX12_bias 36 = .ok (.iaload, 1) := by decide +kernel
theorem dX12_bias_37 : decode cX12_bias 37 = .ok (.aload_n 0, 1) := by decide +kernel
theorem dX12_bias_38 : decode cX12_bias 38 = .ok (.iload_n 1, 1) := by decide +kernel
theorem dX12_bias_39 : decode cX12_bias 39 = .ok (.invokevirtual 84, 3) := by decide +kernel
theorem dX12_bias_42 : decode cX12_bias 42 = .ok (.ifCond .eq 7, 3) := by decide +kernel
theorem dX12_bias_45 : decode cX12_bias 45 = .ok (.iconst 0, 1) := by decide +kernel
theorem dX12_bias_46 : decode cX12_bias 46 = .ok (.goto 5, 3) := by decide +kernel
theorem dX12_bias_49 : decode cX12_bias 49 = .ok (.bipush 10, 2) := by decide +kernel
theorem dX12_bias_51 : decode cX12_bias 51 = .ok (.iadd, 1) := by decide +kernel
theorem dX12_bias_52 : decode cX12_bias 52 = .ok (.ireturn, 1) := by decide +kernel
theorem dX12_queued_0 : decode cX12_queued 0 = .ok (.iload_n 1, 1) := by decide +kernel
theorem dX12_queued_1 : decode cX12_queued 1 = .ok (.invokestatic 104, 3) := by decide +kernel
theorem dX12_queued_4 : decode cX12_queued 4 = .ok (.ifCond .ne 6, 3) := by decide +kernel
theorem dX12_queued_7 : decode cX12_queued 7 = .ok (.bipush (-2), 2) := by decide +kernel
theorem dX12_queued_9 : decode cX12_queued 9 = .ok (.ireturn, 1) := by decide +kernel
theorem dX12_queued_10 : decode cX12_queued 10 = .ok (.iload_n 2, 1) := by decide +kernel
theorem dX12_queued_11 : decode cX12_queued 11 = .ok (.ifCond .ge 6, 3) := by decide +kernel
theorem dX12_queued_14 : decode cX12_queued 14 = .ok (.bipush (-3), 2) := by decide +kernel
theorem dX12_queued_16 : decode cX12_queued 16 = .ok (.ireturn, 1) := by decide +kernel
theorem dX12_queued_17 : decode cX12_queued 17 = .ok (.aload_n 0, 1) := by decide +kernel
theorem dX12_queued_18 : decode cX12_queued 18 = .ok (.getfield 7, 3) := by decide +kernel
theorem dX12_queued_21 : decode cX12_queued 21 = .ok (.bipush 46, 2) := by decide +kernel
theorem dX12_queued_23 : decode cX12_queued 23 = .ok (.iload_n 1, 1) := by decide +kernel
theorem dX12_queued_24 : decode cX12_queued 24 = .ok (.iadd, 1) := by decide +kernel
theorem dX12_queued_25 : decode cX12_queued 25 = .ok (.iaload, 1) := by decide +kernel
theorem dX12_queued_26 : decode cX12_queued 26 = .ok (.iconst 4, 1) := by decide +kernel
theorem dX12_queued_27 : decode cX12_queued 27 = .ok (.if_icmp .ne 33, 3) := by decide +kernel
theorem dX12_queued_30 : decode cX12_queued 30 = .ok (.iload_n 2, 1) := by decide +kernel
theorem dX12_queued_31 : decode cX12_queued 31 = .ok (.aload_n 0, 1) := by decide +kernel
theorem dX12_queued_32 : decode cX12_queued 32 = .ok (.getfield 7, 3) := by decide +kernel
theorem dX12_queued_35 : decode cX12_queued 35 = .ok (.bipush 110, 2) := by decide +kernel
theorem dX12_queued_37 : decode cX12_queued 37 = .ok (.iload_n 1, 1) := by decide +kernel
theorem dX12_queued_38 : decode cX12_queued 38 = .ok (.iadd, 1) := by decide +kernel
theorem dX12_queued_39 : decode cX12_queued 39 = .ok (.iaload, 1) := by decide +kernel
theorem dX12_queued_40 : decode cX12_queued 40 = .ok (.if_icmp .ge 20, 3) := by decide +kernel
theorem dX12_queued_43 : decode cX12_queued 43 = .ok (.aload_n 0, 1) := by decide +kernel
theorem dX12_queued_44 : decode cX12_queued 44 = .ok (.getfield 7, 3) := by decide +kernel
theorem dX12_queued_47 : decode cX12_queued 47 = .ok (.bipush 126, 2) := by decide +kernel
theorem dX12_queued_49 : decode cX12_queued 49 = .ok (.bipush 6, 2) := by decide +kernel
theorem dX12_queued_51 : decode cX12_queued 51 = .ok (.iload_n 1, 1) := by decide +kernel
theorem dX12_queued_52 : decode cX12_queued 52 = .ok (.imul, 1) := by decide +kernel
theorem dX12_queued_53 : decode cX12_queued 53 = .ok (.iadd, 1) := by decide +kernel
theorem dX12_queued_54 : decode cX12_queued 54 = .ok (.iload_n 2, 1) := by decide +kernel
theorem dX12_queued_55 : decode cX12_queued 55 = .ok (.iadd, 1) := by decide +kernel
theorem dX12_queued_56 : decode cX12_queued 56 = .ok (.iaload, 1) := by decide +kernel
theorem dX12_queued_57 : decode cX12_queued 57 = .ok (.goto 5, 3) := by decide +kernel
theorem dX12_queued_60 : decode cX12_queued 60 = .ok (.bipush (-8), 2) := by decide +kernel
theorem dX12_queued_62 : decode cX12_queued 62 = .ok (.ireturn, 1) := by decide +kernel
theorem dX12_waiting_0 : decode cX12_waiting 0 = .ok (.iload_n 1, 1) := by decide +kernel
theorem dX12_waiting_1 : decode cX12_waiting 1 = .ok (.invokestatic 104, 3) := by decide +kernel
theorem dX12_waiting_4 : decode cX12_waiting 4 = .ok (.ifCond .ne 6, 3) := by decide +kernel
theorem dX12_waiting_7 : decode cX12_waiting 7 = .ok (.bipush (-2), 2) := by decide +kernel
theorem dX12_waiting_9 : decode cX12_waiting 9 = .ok (.ireturn, 1) := by decide +kernel
theorem dX12_waiting_10 : decode cX12_waiting 10 = .ok (.iload_n 2, 1) := by decide +kernel
theorem dX12_waiting_11 : decode cX12_waiting 11 = .ok (.ifCond .ge 6, 3) := by decide +kernel
theorem dX12_waiting_14 : decode cX12_waiting 14 = .ok (.bipush (-3), 2) := by decide +kernel
theorem dX12_waiting_16 : decode cX12_waiting 16 = .ok (.ireturn, 1) := by decide +kernel
theorem dX12_waiting_17 : decode cX12_waiting 17 = .ok (.aload_n 0, 1) := by decide +kernel
theorem dX12_waiting_18 : decode cX12_waiting 18 = .ok (.getfield 7, 3) := by decide +kernel
theorem dX12_waiting_21 : decode cX12_waiting 21 = .ok (.bipush 46, 2) := by decide +kernel
theorem dX12_waiting_23 : decode cX12_waiting 23 = .ok (.iload_n 1, 1) := by decide +kernel
theorem dX12_waiting_24 : decode cX12_waiting 24 = .ok (.iadd, 1) := by decide +kernel
theorem dX12_waiting_25 : decode cX12_waiting 25 = .ok (.iaload, 1) := by decide +kernel
theorem dX12_waiting_26 : decode cX12_waiting 26 = .ok (.iconst 4, 1) := by decide +kernel
theorem dX12_waiting_27 : decode cX12_waiting 27 = .ok (.if_icmp .ne 34, 3) := by decide +kernel
theorem dX12_waiting_30 : decode cX12_waiting 30 = .ok (.iload_n 2, 1) := by decide +kernel
theorem dX12_waiting_31 : decode cX12_waiting 31 = .ok (.aload_n 0, 1) := by decide +kernel
theorem dX12_waiting_32 : decode cX12_waiting 32 = .ok (.getfield 7, 3) := by decide +kernel
theorem dX12_waiting_35 : decode cX12_waiting 35 = .ok (.bipush 118, 2) := by decide +kernel
theorem dX12_waiting_37 : decode cX12_waiting 37 = .ok (.iload_n 1, 1) := by decide +kernel
theorem dX12_waiting_38 : decode cX12_waiting 38 = .ok (.iadd, 1) := by decide +kernel
theorem dX12_waiting_39 : decode cX12_waiting 39 = .ok (.iaload, 1) := by decide +kernel
theorem dX12_waiting_40 : decode cX12_waiting 40 = .ok (.if_icmp .ge 21, 3) := by decide +kernel
theorem dX12_waiting_43 : decode cX12_waiting 43 = .ok (.aload_n 0, 1) := by decide +kernel
theorem dX12_waiting_44 : decode cX12_waiting 44 = .ok (.getfield 7, 3) := by decide +kernel
theorem dX12_waiting_47 : decode cX12_waiting 47 = .ok (.sipush 174, 3) := by decide +kernel
theorem dX12_waiting_50 : decode cX12_waiting 50 = .ok (.bipush 6, 2) := by decide +kernel
theorem dX12_waiting_52 : decode cX12_waiting 52 = .ok (.iload_n 1, 1) := by decide +kernel
theorem dX12_waiting_53 : decode cX12_waiting 53 = .ok (.imul, 1) := by decide +kernel
theorem dX12_waiting_54 : decode cX12_waiting 54 = .ok (.iadd, 1) := by decide +kernel
theorem dX12_waiting_55 : decode cX12_waiting 55 = .ok (.iload_n 2, 1) := by decide +kernel
theorem dX12_waiting_56 : decode cX12_waiting 56 = .ok (.iadd, 1) := by decide +kernel
theorem dX12_waiting_57 : decode cX12_waiting 57 = .ok (.iaload, 1) := by decide +kernel
theorem dX12_waiting_58 : decode cX12_waiting 58 = .ok (.goto 5, 3) := by decide +kernel
theorem dX12_waiting_61 : decode cX12_waiting 61 = .ok (.bipush (-8), 2) := by decide +kernel
theorem dX12_waiting_63 : decode cX12_waiting 63 = .ok (.ireturn, 1) := by decide +kernel
theorem dX12_sign_0 : decode cX12_sign 0 = .ok (.aload_n 0, 1) := by decide +kernel
theorem dX12_sign_1 : decode cX12_sign 1 = .ok (.getfield 25, 3) := by decide +kernel
theorem dX12_sign_4 : decode cX12_sign 4 = .ok (.aload_n 0, 1) := by decide +kernel
theorem dX12_sign_5 : decode cX12_sign 5 = .ok (.getfield 130, 3) := by decide +kernel
theorem dX12_sign_8 : decode cX12_sign 8 = .ok (.iload_n 1, 1) := by decide +kernel
theorem dX12_sign_9 : decode cX12_sign 9 = .ok (.iastore, 1) := by decide +kernel
theorem dX12_sign_10 : decode cX12_sign 10 = .ok (.aload_n 0, 1) := by decide +kernel
theorem dX12_sign_11 : decode cX12_sign 11 = .ok (.dup, 1) := by decide +kernel
theorem dX12_sign_12 : decode cX12_sign 12 = .ok (.getfield 130, 3) := by decide +kernel
theorem dX12_sign_15 : decode cX12_sign 15 = .ok (.iconst 1, 1) := by decide +kernel
theorem dX12_sign_16 : decode cX12_sign 16 = .ok (.iadd, 1) := by decide +kernel
theorem dX12_sign_17 : decode cX12_sign 17 = .ok (.putfield 130, 3) := by decide +kernel
theorem dX12_sign_20 : decode cX12_sign 20 = .ok (.return_, 1) := by decide +kernel
theorem dX12_word_0 : decode cX12_word 0 = .ok (.bipush 7, 2) := by decide +kernel
theorem dX12_word_2 : decode cX12_word 2 = .ok (.istore_n 3, 1) := by decide +kernel
theorem dX12_word_3 : decode cX12_word 3 = .ok (.iload_n 3, 1) := by decide +kernel
theorem dX12_word_4 : decode cX12_word 4 = .ok (.ifCond .lt 35, 3) := by decide +kernel
theorem dX12_word_7 : decode cX12_word 7 = .ok (.lload_n 1, 1) := by decide +kernel
theorem dX12_word_8 : decode cX12_word 8 = .ok (.iconst 5, 1) := by decide +kernel
theorem dX12_word_9 : decode cX12_word 9 = .ok (.iload_n 3, 1) := by decide +kernel
theorem dX12_word_10 : decode cX12_word 10 = .ok (.imul, 1) := by decide +kernel
theorem dX12_word_11 : decode cX12_word 11 = .ok (.lshr, 1) := by decide +kernel
theorem dX12_word_12 : decode cX12_word 12 = .ok (.ldc2_w 134, 3) := by decide +kernel
theorem dX12_word_15 : decode cX12_word 15 = .ok (.land, 1) := by decide +kernel
theorem dX12_word_16 : decode cX12_word 16 = .ok (.l2i, 1) := by decide +kernel
theorem dX12_word_17 : decode cX12_word 17 = .ok (.istore 4, 2) := by decide +kernel
theorem dX12_word_19 : decode cX12_word 19 = .ok (.iload 4, 2) := by decide +kernel
theorem dX12_word_21 : decode cX12_word 21 = .ok (.ifCond .le 12, 3) := by decide +kernel
theorem dX12_word_24 : decode cX12_word 24 = .ok (.aload_n 0, 1) := by decide +kernel
theorem dX12_word_25 : decode cX12_word 25 = .ok (.bipush 96, 2) := by decide +kernel
theorem dX12_word_27 : decode cX12_word 27 = .ok (.iload 4, 2) := by decide +kernel
theorem dX12_word_29 : decode cX12_word 29 = .ok (.iadd, 1) := by decide +kernel
theorem dX12_word_30 : decode cX12_word 30 = .ok (.invokevirtual 136, 3) := by decide +kernel
theorem dX12_word_33 : decode cX12_word 33 = .ok (.iinc 3 (-1), 3) := by decide +kernel
theorem dX12_word_36 : decode cX12_word 36 = .ok (.goto (-33), 3) := by decide +kernel
theorem dX12_word_39 : decode cX12_word 39 = .ok (.return_, 1) := by decide +kernel
theorem dX12_number_0 : decode cX12_number 0 = .ok (.iconst 1, 1) := by decide +kernel
theorem dX12_number_1 : decode cX12_number 1 = .ok (.istore_n 2, 1) := by decide +kernel
theorem dX12_number_2 : decode cX12_number 2 = .ok (.iload_n 2, 1) := by decide +kernel
theorem dX12_number_3 : decode cX12_number 3 = .ok (.iload_n 1, 1) := by decide +kernel
theorem dX12_number_4 : decode cX12_number 4 = .ok (.bipush 10, 2) := by decide +kernel
theorem dX12_number_6 : decode cX12_number 6 = .ok (.idiv, 1) := by decide +kernel
theorem dX12_number_7 : decode cX12_number 7 = .ok (.if_icmp .gt 11, 3) := by decide +kernel
theorem dX12_number_10 : decode cX12_number 10 = .ok (.bipush 10, 2) := by decide +kernel
theorem dX12_number_12 : decode cX12_number 12 = .ok (.iload_n 2, 1) := by decide +kernel
theorem dX12_number_13 : decode cX12_number 13 = .ok (.imul, 1) := by decide +kernel
theorem dX12_number_14 : decode cX12_number 14 = .ok (.istore_n 2, 1) := by decide +kernel
theorem dX12_number_15 : decode cX12_number 15 = .ok (.goto (-13), 3) := by decide +kernel
theorem dX12_number_18 : decode cX12_number 18 = .ok (.iload_n 2, 1) := by decide +kernel
theorem dX12_number_19 : decode cX12_number 19 = .ok (.istore_n 3, 1) := by decide +kernel
theorem dX12_number_20 : decode cX12_number 20 = .ok (.iload_n 3, 1) := by decide +kernel
theorem dX12_number_21 : decode cX12_number 21 = .ok (.ifCond .le 24, 3) := by decide +kernel
theorem dX12_number_24 : decode cX12_number 24 = .ok (.aload_n 0, 1) := by decide +kernel
theorem dX12_number_25 : decode cX12_number 25 = .ok (.bipush 48, 2) := by decide +kernel
theorem dX12_number_27 : decode cX12_number 27 = .ok (.iload_n 1, 1) := by decide +kernel
theorem dX12_number_28 : decode cX12_number 28 = .ok (.iload_n 3, 1) := by decide +kernel
theorem dX12_number_29 : decode cX12_number 29 = .ok (.idiv, 1) := by decide +kernel
theorem dX12_number_30 : decode cX12_number 30 = .ok (.bipush 10, 2) := by decide +kernel
theorem dX12_number_32 : decode cX12_number 32 = .ok (.irem, 1) := by decide +kernel
theorem dX12_number_33 : decode cX12_number 33 = .ok (.iadd, 1) := by decide +kernel
theorem dX12_number_34 : decode cX12_number 34 = .ok (.invokevirtual 136, 3) := by decide +kernel
theorem dX12_number_37 : decode cX12_number 37 = .ok (.iload_n 3, 1) := by decide +kernel
theorem dX12_number_38 : decode cX12_number 38 = .ok (.bipush 10, 2) := by decide +kernel
theorem dX12_number_40 : decode cX12_number 40 = .ok (.idiv, 1) := by decide +kernel
theorem dX12_number_41 : decode cX12_number 41 = .ok (.istore_n 3, 1) := by decide +kernel
theorem dX12_number_42 : decode cX12_number 42 = .ok (.goto (-22), 3) := by decide +kernel
theorem dX12_number_45 : decode cX12_number 45 = .ok (.return_, 1) := by decide +kernel
theorem dX12_blank_0 : decode cX12_blank 0 = .ok (.aload_n 0, 1) := by decide +kernel
theorem dX12_blank_1 : decode cX12_blank 1 = .ok (.bipush 32, 2) := by decide +kernel
theorem dX12_blank_3 : decode cX12_blank 3 = .ok (.invokevirtual 136, 3) := by decide +kernel
theorem dX12_blank_6 : decode cX12_blank 6 = .ok (.return_, 1) := by decide +kernel
theorem dX12_lockWord_0 : decode cX12_lockWord 0 = .ok (.iload_n 0, 1) := by decide +kernel
theorem dX12_lockWord_1 : decode cX12_lockWord 1 = .ok (.tableswitch 47 0 3 #[31, 35, 39, 43], 31) := by decide +kernel
theorem dX12_lockWord_32 : decode cX12_lockWord 32 = .ok (.getstatic 139, 3) := by decide +kernel
theorem dX12_lockWord_35 : decode cX12_lockWord 35 = .ok (.lreturn, 1) := by decide +kernel
theorem dX12_lockWord_36 : decode cX12_lockWord 36 = .ok (.getstatic 143, 3) := by decide +kernel
theorem dX12_lockWord_39 : decode cX12_lockWord 39 = .ok (.lreturn, 1) := by decide +kernel
theorem dX12_lockWord_40 : decode cX12_lockWord 40 = .ok (.getstatic 146, 3) := by decide +kernel
theorem dX12_lockWord_43 : decode cX12_lockWord 43 = .ok (.lreturn, 1) := by decide +kernel
theorem dX12_lockWord_44 : decode cX12_lockWord 44 = .ok (.getstatic 149, 3) := by decide +kernel
theorem dX12_lockWord_47 : decode cX12_lockWord 47 = .ok (.lreturn, 1) := by decide +kernel
theorem dX12_lockWord_48 : decode cX12_lockWord 48 = .ok (.getstatic 152, 3) := by decide +kernel
theorem dX12_lockWord_51 : decode cX12_lockWord 51 = .ok (.lreturn, 1) := by decide +kernel
theorem dX12_list_0 : decode cX12_list 0 = .ok (.aload_n 0, 1) := by decide +kernel
theorem dX12_list_1 : decode cX12_list 1 = .ok (.getfield 7, 3) := by decide +kernel
theorem dX12_list_4 : decode cX12_list 4 = .ok (.iload 4, 2) := by decide +kernel
theorem dX12_list_6 : decode cX12_list 6 = .ok (.iaload, 1) := by decide +kernel
theorem dX12_list_7 : decode cX12_list 7 = .ok (.ifCond .le 50, 3) := by decide +kernel
theorem dX12_list_10 : decode cX12_list 10 = .ok (.aload_n 0, 1) := by decide +kernel
theorem dX12_list_11 : decode cX12_list 11 = .ok (.invokevirtual 155, 3) := by decide +kernel
theorem dX12_list_14 : decode cX12_list 14 = .ok (.aload_n 0, 1) := by decide +kernel
theorem dX12_list_15 : decode cX12_list 15 = .ok (.lload_n 1, 1) := by decide +kernel
theorem dX12_list_16 : decode cX12_list 16 = .ok (.invokevirtual 158, 3) := by decide +kernel
theorem dX12_list_19 : decode cX12_list 19 = .ok (.aload_n 0, 1) := by decide +kernel
theorem dX12_list_20 : decode cX12_list 20 = .ok (.invokevirtual 155, 3) := by decide +kernel
theorem dX12_list_23 : decode cX12_list 23 = .ok (.iconst 0, 1) := by decide +kernel
theorem dX12_list_24 : decode cX12_list 24 = .ok (.istore 5, 2) := by decide +kernel
theorem dX12_list_26 : decode cX12_list 26 = .ok (.iload 5, 2) := by decide +kernel
theorem dX12_list_28 : decode cX12_list 28 = .ok (.aload_n 0, 1) := by decide +kernel
theorem dX12_list_29 : decode cX12_list 29 = .ok (.getfield 7, 3) := by decide +kernel
theorem dX12_list_32 : decode cX12_list 32 = .ok (.iload 4, 2) := by decide +kernel
theorem dX12_list_34 : decode cX12_list 34 = .ok (.iaload, 1) := by decide +kernel
theorem dX12_list_35 : decode cX12_list 35 = .ok (.if_icmp .ge 22, 3) := by decide +kernel
theorem dX12_list_38 : decode cX12_list 38 = .ok (.aload_n 0, 1) := by decide +kernel
theorem dX12_list_39 : decode cX12_list 39 = .ok (.aload_n 0, 1) := by decide +kernel
theorem dX12_list_40 : decode cX12_list 40 = .ok (.getfield 7, 3) := by decide +kernel
theorem dX12_list_43 : decode cX12_list 43 = .ok (.iload_n 3, 1) := by decide +kernel
theorem dX12_list_44 : decode cX12_list 44 = .ok (.iload 5, 2) := by decide +kernel
theorem dX12_list_46 : decode cX12_list 46 = .ok (.iadd, 1) := by decide +kernel
theorem dX12_list_47 : decode cX12_list 47 = .ok (.iaload, 1) := by decide +kernel
theorem dX12_list_48 : decode cX12_list 48 = .ok (.invokevirtual 162, 3) := by decide +kernel
theorem dX12_list_51 : decode cX12_list 51 = .ok (.iinc 5 1, 3) := by decide +kernel
theorem dX12_list_54 : decode cX12_list 54 = .ok (.goto (-28), 3) := by decide +kernel
theorem dX12_list_57 : decode cX12_list 57 = .ok (.return_, 1) := by decide +kernel
theorem dX12_makeText_0 : decode cX12_makeText 0 = .ok (.aload_n 0, 1) := by decide +kernel
theorem dX12_makeText_1 : decode cX12_makeText 1 = .ok (.iconst 0, 1) := by decide +kernel
theorem dX12_makeText_2 : decode cX12_makeText 2 = .ok (.putfield 130, 3) := by decide +kernel
theorem dX12_makeText_5 : decode cX12_makeText 5 = .ok (.aload_n 0, 1) := by decide +kernel
theorem dX12_makeText_6 : decode cX12_makeText 6 = .ok (.aload_n 0, 1) := by decide +kernel
theorem dX12_makeText_7 : decode cX12_makeText 7 = .ok (.getfield 7, 3) := by decide +kernel
theorem dX12_makeText_10 : decode cX12_makeText 10 = .ok (.bipush 46, 2) := by decide +kernel
theorem dX12_makeText_12 : decode cX12_makeText 12 = .ok (.iload_n 1, 1) := by decide +kernel
theorem dX12_makeText_13 : decode cX12_makeText 13 = .ok (.iadd, 1) := by decide +kernel
theorem dX12_makeText_14 : decode cX12_makeText 14 = .ok (.iaload, 1) := by decide +kernel
theorem dX12_makeText_15 : decode cX12_makeText 15 = .ok (.invokestatic 165, 3) := by decide +kernel
theorem dX12_makeText_18 : decode cX12_makeText 18 = .ok (.invokevirtual 158, 3) := by decide +kernel
theorem dX12_makeText_21 : decode cX12_makeText 21 = .ok (.aload_n 0, 1) := by decide +kernel
theorem dX12_makeText_22 : decode cX12_makeText 22 = .ok (.getfield 7, 3) := by decide +kernel
theorem dX12_makeText_25 : decode cX12_makeText 25 = .ok (.bipush 46, 2) := by decide +kernel
theorem dX12_makeText_27 : decode cX12_makeText 27 = .ok (.iload_n 1, 1) := by decide +kernel
theorem dX12_makeText_28 : decode cX12_makeText 28 = .ok (.iadd, 1) := by decide +kernel
theorem dX12_makeText_29 : decode cX12_makeText 29 = .ok (.iaload, 1) := by decide +kernel
theorem dX12_makeText_30 : decode cX12_makeText 30 = .ok (.iconst 2, 1) := by decide +kernel
theorem dX12_makeText_31 : decode cX12_makeText 31 = .ok (.if_icmp .ne 50, 3) := by decide +kernel
theorem dX12_makeText_34 : decode cX12_makeText 34 = .ok (.aload_n 0, 1) := by decide +kernel
theorem dX12_makeText_35 : decode cX12_makeText 35 = .ok (.invokevirtual 155, 3) := by decide +kernel
theorem dX12_makeText_38 : decode cX12_makeText 38 = .ok (.aload_n 0, 1) := by decide +kernel
theorem dX12_makeText_39 : decode cX12_makeText 39 = .ok (.getstatic 169, 3) := by decide +kernel
theorem dX12_makeText_42 : decode cX12_makeText 42 = .ok (.invokevirtual 158, 3) := by decide +kernel
theorem dX12_makeText_45 : decode cX12_makeText 45 = .ok (.aload_n 0, 1) := by decide +kernel
theorem dX12_makeText_46 : decode cX12_makeText 46 = .ok (.invokevirtual 155, 3) := by decide +kernel
theorem dX12_makeText_49 : decode cX12_makeText 49 = .ok (.aload_n 0, 1) := by decide +kernel
theorem dX12_makeText_50 : decode cX12_makeText 50 = .ok (.aload_n 0, 1) := by decide +kernel
theorem dX12_makeText_51 : decode cX12_makeText 51 = .ok (.getfield 7, 3) := by decide +kernel
theorem dX12_makeText_54 : decode cX12_makeText 54 = .ok (.bipush 70, 2) := by decide +kernel
theorem dX12_makeText_56 : decode cX12_makeText 56 = .ok (.iload_n 1, 1) := by decide +kernel
theorem dX12_makeText_57 : decode cX12_makeText 57 = .ok (.iadd, 1) := by decide +kernel
theorem dX12_makeText_58 : decode cX12_makeText 58 = .ok (.iaload, 1) := by decide +kernel
theorem dX12_makeText_59 : decode cX12_makeText 59 = .ok (.invokevirtual 162, 3) := by decide +kernel
theorem dX12_makeText_62 : decode cX12_makeText 62 = .ok (.aload_n 0, 1) := by decide +kernel
theorem dX12_makeText_63 : decode cX12_makeText 63 = .ok (.iload_n 1, 1) := by decide +kernel
theorem dX12_makeText_64 : decode cX12_makeText 64 = .ok (.invokevirtual 84, 3) := by decide +kernel
theorem dX12_makeText_67 : decode cX12_makeText 67 = .ok (.ifCond .ne 14, 3) := by decide +kernel
theorem dX12_makeText_70 : decode cX12_makeText 70 = .ok (.aload_n 0, 1) := by decide +kernel
theorem dX12_makeText_71 : decode cX12_makeText 71 = .ok (.invokevirtual 155, 3) := by decide +kernel
theorem dX12_makeText_74 : decode cX12_makeText 74 = .ok (.aload_n 0, 1) := by decide +kernel
theorem dX12_makeText_75 : decode cX12_makeText 75 = .ok (.getstatic 172, 3) := by decide +kernel
theorem dX12_makeText_78 : decode cX12_makeText 78 = .ok (.invokevirtual 158, 3) := by decide +kernel
theorem dX12_makeText_81 : decode cX12_makeText 81 = .ok (.aload_n 0, 1) := by decide +kernel
theorem dX12_makeText_82 : decode cX12_makeText 82 = .ok (.iload_n 1, 1) := by decide +kernel
theorem dX12_makeText_83 : decode cX12_makeText 83 = .ok (.invokevirtual 54, 3) := by decide +kernel
theorem dX12_makeText_86 : decode cX12_makeText 86 = .ok (.ifCond .eq 54, 3) := by decide +kernel
theorem dX12_makeText_89 : decode cX12_makeText 89 = .ok (.aload_n 0, 1) := by decide +kernel
theorem dX12_makeText_90 : decode cX12_makeText 90 = .ok (.invokevirtual 155, 3) := by decide +kernel
theorem dX12_makeText_93 : decode cX12_makeText 93 = .ok (.aload_n 0, 1) := by decide +kernel
theorem dX12_makeText_94 : decode cX12_makeText 94 = .ok (.getstatic 175, 3) := by decide +kernel
theorem dX12_makeText_97 : decode cX12_makeText 97 = .ok (.invokevirtual 158, 3) := by decide +kernel
theorem dX12_makeText_100 : decode cX12_makeText 100 = .ok (.aload_n 0, 1) := by decide +kernel
theorem dX12_makeText_101 : decode cX12_makeText 101 = .ok (.invokevirtual 155, 3) := by decide +kernel
theorem dX12_makeText_104 : decode cX12_makeText 104 = .ok (.aload_n 0, 1) := by decide +kernel
theorem dX12_makeText_105 : decode cX12_makeText 105 = .ok (.aload_n 0, 1) := by decide +kernel
theorem dX12_makeText_106 : decode cX12_makeText 106 = .ok (.getfield 7, 3) := by decide +kernel
theorem dX12_makeText_109 : decode cX12_makeText 109 = .ok (.bipush 54, 2) := by decide +kernel
theorem dX12_makeText_111 : decode cX12_makeText 111 = .ok (.iload_n 1, 1) := by decide +kernel
theorem dX12_makeText_112 : decode cX12_makeText 112 = .ok (.iadd, 1) := by decide +kernel
theorem dX12_makeText_113 : decode cX12_makeText 113 = .ok (.iaload, 1) := by decide +kernel
theorem dX12_makeText_114 : decode cX12_makeText 114 = .ok (.invokevirtual 162, 3) := by decide +kernel
theorem dX12_makeText_117 : decode cX12_makeText 117 = .ok (.aload_n 0, 1) := by decide +kernel
theorem dX12_makeText_118 : decode cX12_makeText 118 = .ok (.invokevirtual 155, 3) := by decide +kernel
theorem dX12_makeText_121 : decode cX12_makeText 121 = .ok (.aload_n 0, 1) := by decide +kernel
theorem dX12_makeText_122 : decode cX12_makeText 122 = .ok (.bipush 120, 2) := by decide +kernel
theorem dX12_makeText_124 : decode cX12_makeText 124 = .ok (.invokevirtual 136, 3) := by decide +kernel
theorem dX12_makeText_127 : decode cX12_makeText 127 = .ok (.aload_n 0, 1) := by decide +kernel
theorem dX12_makeText_128 : decode cX12_makeText 128 = .ok (.aload_n 0, 1) := by decide +kernel
theorem dX12_makeText_129 : decode cX12_makeText 129 = .ok (.getfield 7, 3) := by decide +kernel
theorem dX12_makeText_132 : decode cX12_makeText 132 = .ok (.bipush 62, 2) := by decide +kernel
theorem dX12_makeText_134 : decode cX12_makeText 134 = .ok (.iload_n 1, 1) := by decide +kernel
theorem dX12_makeText_135 : decode cX12_makeText 135 = .ok (.iadd, 1) := by decide +kernel
theorem dX12_makeText_136 : decode cX12_makeText 136 = .ok (.iaload, 1) := by decide +kernel
theorem dX12_makeText_137 : decode cX12_makeText 137 = .ok (.invokevirtual 162, 3) := by decide +kernel
theorem dX12_makeText_140 : decode cX12_makeText 140 = .ok (.aload_n 0, 1) := by decide +kernel
theorem dX12_makeText_141 : decode cX12_makeText 141 = .ok (.getfield 7, 3) := by decide +kernel
theorem dX12_makeText_144 : decode cX12_makeText 144 = .ok (.bipush 46, 2) := by decide +kernel
theorem dX12_makeText_146 : decode cX12_makeText 146 = .ok (.iload_n 1, 1) := by decide +kernel
theorem dX12_makeText_147 : decode cX12_makeText 147 = .ok (.iadd, 1) := by decide +kernel
theorem dX12_makeText_148 : decode cX12_makeText 148 = .ok (.iaload, 1) := by decide +kernel
theorem dX12_makeText_149 : decode cX12_makeText 149 = .ok (.iconst 4, 1) := by decide +kernel
theorem dX12_makeText_150 : decode cX12_makeText 150 = .ok (.if_icmp .ne 40, 3) := by decide +kernel
theorem dX12_makeText_153 : decode cX12_makeText 153 = .ok (.aload_n 0, 1) := by decide +kernel
theorem dX12_makeText_154 : decode cX12_makeText 154 = .ok (.getstatic 178, 3) := by decide +kernel
theorem dX12_makeText_157 : decode cX12_makeText 157 = .ok (.bipush 126, 2) := by decide +kernel
theorem dX12_makeText_159 : decode cX12_makeText 159 = .ok (.bipush 6, 2) := by decide +kernel
theorem dX12_makeText_161 : decode cX12_makeText 161 = .ok (.iload_n 1, 1) := by decide +kernel
theorem dX12_makeText_162 : decode cX12_makeText 162 = .ok (.imul, 1) := by decide +kernel
theorem dX12_makeText_163 : decode cX12_makeText 163 = .ok (.iadd, 1) := by decide +kernel
theorem dX12_makeText_164 : decode cX12_makeText 164 = .ok (.bipush 110, 2) := by decide +kernel
theorem dX12_makeText_166 : decode cX12_makeText 166 = .ok (.iload_n 1, 1) := by decide +kernel
theorem dX12_makeText_167 : decode cX12_makeText 167 = .ok (.iadd, 1) := by decide +kernel
theorem dX12_makeText_168 : decode cX12_makeText 168 = .ok (.invokevirtual 181, 3) := by decide +kernel
theorem dX12_makeText_171 : decode cX12_makeText 171 = .ok (.aload_n 0, 1) := by decide +kernel
theorem dX12_makeText_172 : decode cX12_makeText 172 = .ok (.getstatic 185, 3) := by decide +kernel
theorem dX12_makeText_175 : decode cX12_makeText 175 = .ok (.sipush 174, 3) := by decide +kernel
theorem dX12_makeText_178 : decode cX12_makeText 178 = .ok (.bipush 6, 2) := by decide +kernel
theorem dX12_makeText_180 : decode cX12_makeText 180 = .ok (.iload_n 1, 1) := by decide +kernel
theorem dX12_makeText_181 : decode cX12_makeText 181 = .ok (.imul, 1) := by decide +kernel
theorem dX12_makeText_182 : decode cX12_makeText 182 = .ok (.iadd, 1) := by decide +kernel
theorem dX12_makeText_183 : decode cX12_makeText 183 = .ok (.bipush 118, 2) := by decide +kernel
theorem dX12_makeText_185 : decode cX12_makeText 185 = .ok (.iload_n 1, 1) := by decide +kernel
theorem dX12_makeText_186 : decode cX12_makeText 186 = .ok (.iadd, 1) := by decide +kernel
theorem dX12_makeText_187 : decode cX12_makeText 187 = .ok (.invokevirtual 181, 3) := by decide +kernel
theorem dX12_makeText_190 : decode cX12_makeText 190 = .ok (.aload_n 0, 1) := by decide +kernel
theorem dX12_makeText_191 : decode cX12_makeText 191 = .ok (.getfield 7, 3) := by decide +kernel
theorem dX12_makeText_194 : decode cX12_makeText 194 = .ok (.bipush 94, 2) := by decide +kernel
theorem dX12_makeText_196 : decode cX12_makeText 196 = .ok (.iload_n 1, 1) := by decide +kernel
theorem dX12_makeText_197 : decode cX12_makeText 197 = .ok (.iadd, 1) := by decide +kernel
theorem dX12_makeText_198 : decode cX12_makeText 198 = .ok (.iaload, 1) := by decide +kernel
theorem dX12_makeText_199 : decode cX12_makeText 199 = .ok (.bipush (-8), 2) := by decide +kernel
theorem dX12_makeText_201 : decode cX12_makeText 201 = .ok (.if_icmp .eq 26, 3) := by decide +kernel
theorem dX12_makeText_204 : decode cX12_makeText 204 = .ok (.aload_n 0, 1) := by decide +kernel
theorem dX12_makeText_205 : decode cX12_makeText 205 = .ok (.invokevirtual 155, 3) := by decide +kernel
theorem dX12_makeText_208 : decode cX12_makeText 208 = .ok (.aload_n 0, 1) := by decide +kernel
theorem dX12_makeText_209 : decode cX12_makeText 209 = .ok (.bipush 35, 2) := by decide +kernel
theorem dX12_makeText_211 : decode cX12_makeText 211 = .ok (.invokevirtual 136, 3) := by decide +kernel
theorem dX12_makeText_214 : decode cX12_makeText 214 = .ok (.aload_n 0, 1) := by decide +kernel
theorem dX12_makeText_215 : decode cX12_makeText 215 = .ok (.aload_n 0, 1) := by decide +kernel
theorem dX12_makeText_216 : decode cX12_makeText 216 = .ok (.getfield 7, 3) := by decide +kernel
theorem dX12_makeText_219 : decode cX12_makeText 219 = .ok (.bipush 94, 2) := by decide +kernel
theorem dX12_makeText_221 : decode cX12_makeText 221 = .ok (.iload_n 1, 1) := by decide +kernel
theorem dX12_makeText_222 : decode cX12_makeText 222 = .ok (.iadd, 1) := by decide +kernel
theorem dX12_makeText_223 : decode cX12_makeText 223 = .ok (.iaload, 1) := by decide +kernel
theorem dX12_makeText_224 : decode cX12_makeText 224 = .ok (.invokevirtual 162, 3) := by decide +kernel
theorem dX12_makeText_227 : decode cX12_makeText 227 = .ok (.aload_n 0, 1) := by decide +kernel
theorem dX12_makeText_228 : decode cX12_makeText 228 = .ok (.getfield 7, 3) := by decide +kernel
theorem dX12_makeText_231 : decode cX12_makeText 231 = .ok (.bipush 86, 2) := by decide +kernel
theorem dX12_makeText_233 : decode cX12_makeText 233 = .ok (.iload_n 1, 1) := by decide +kernel
theorem dX12_makeText_234 : decode cX12_makeText 234 = .ok (.iadd, 1) := by decide +kernel
theorem dX12_makeText_235 : decode cX12_makeText 235 = .ok (.iaload, 1) := by decide +kernel
theorem dX12_makeText_236 : decode cX12_makeText 236 = .ok (.iconst 1, 1) := by decide +kernel
theorem dX12_makeText_237 : decode cX12_makeText 237 = .ok (.if_icmp .ne 20, 3) := by decide +kernel
theorem dX12_makeText_240 : decode cX12_makeText 240 = .ok (.aload_n 0, 1) := by decide +kernel
theorem dX12_makeText_241 : decode cX12_makeText 241 = .ok (.invokevirtual 155, 3) := by decide +kernel
theorem dX12_makeText_244 : decode cX12_makeText 244 = .ok (.aload_n 0, 1) := by decide +kernel
theorem dX12_makeText_245 : decode cX12_makeText 245 = .ok (.getstatic 188, 3) := by decide +kernel
theorem dX12_makeText_248 : decode cX12_makeText 248 = .ok (.invokevirtual 158, 3) := by decide +kernel
theorem dX12_makeText_251 : decode cX12_makeText 251 = .ok (.aload_n 0, 1) := by decide +kernel
theorem dX12_makeText_252 : decode cX12_makeText 252 = .ok (.bipush 100, 2) := by decide +kernel
theorem dX12_makeText_254 : decode cX12_makeText 254 = .ok (.invokevirtual 136, 3) := by decide +kernel
theorem dX12_makeText_257 : decode cX12_makeText 257 = .ok (.return_, 1) := by decide +kernel
theorem dX12_describe_0 : decode cX12_describe 0 = .ok (.iload_n 1, 1) := by decide +kernel
theorem dX12_describe_1 : decode cX12_describe 1 = .ok (.invokestatic 104, 3) := by decide +kernel
theorem dX12_describe_4 : decode cX12_describe 4 = .ok (.ifCond .ne 6, 3) := by decide +kernel
theorem dX12_describe_7 : decode cX12_describe 7 = .ok (.bipush (-2), 2) := by decide +kernel
theorem dX12_describe_9 : decode cX12_describe 9 = .ok (.ireturn, 1) := by decide +kernel
theorem dX12_describe_10 : decode cX12_describe 10 = .ok (.iload_n 2, 1) := by decide +kernel
theorem dX12_describe_11 : decode cX12_describe 11 = .ok (.ifCond .ge 6, 3) := by decide +kernel
theorem dX12_describe_14 : decode cX12_describe 14 = .ok (.bipush (-3), 2) := by decide +kernel
theorem dX12_describe_16 : decode cX12_describe 16 = .ok (.ireturn, 1) := by decide +kernel
theorem dX12_describe_17 : decode cX12_describe 17 = .ok (.aload_n 0, 1) := by decide +kernel
theorem dX12_describe_18 : decode cX12_describe 18 = .ok (.iload_n 1, 1) := by decide +kernel
theorem dX12_describe_19 : decode cX12_describe 19 = .ok (.invokevirtual 191, 3) := by decide +kernel
theorem dX12_describe_22 : decode cX12_describe 22 = .ok (.iload_n 2, 1) := by decide +kernel
theorem dX12_describe_23 : decode cX12_describe 23 = .ok (.aload_n 0, 1) := by decide +kernel
theorem dX12_describe_24 : decode cX12_describe 24 = .ok (.getfield 130, 3) := by decide +kernel
theorem dX12_describe_27 : decode cX12_describe 27 = .ok (.if_icmp .ge 12, 3) := by decide +kernel
theorem dX12_describe_30 : decode cX12_describe 30 = .ok (.aload_n 0, 1) := by decide +kernel
theorem dX12_describe_31 : decode cX12_describe 31 = .ok (.getfield 25, 3) := by decide +kernel
theorem dX12_describe_34 : decode cX12_describe 34 = .ok (.iload_n 2, 1) := by decide +kernel
theorem dX12_describe_35 : decode cX12_describe 35 = .ok (.iaload, 1) := by decide +kernel
theorem dX12_describe_36 : decode cX12_describe 36 = .ok (.goto 5, 3) := by decide +kernel
theorem dX12_describe_39 : decode cX12_describe 39 = .ok (.bipush (-8), 2) := by decide +kernel
theorem dX12_describe_41 : decode cX12_describe 41 = .ok (.ireturn, 1) := by decide +kernel
theorem dX12_type_0 : decode cX12_type 0 = .ok (.iload_n 1, 1) := by decide +kernel
theorem dX12_type_1 : decode cX12_type 1 = .ok (.iconst 0, 1) := by decide +kernel
theorem dX12_type_2 : decode cX12_type 2 = .ok (.iconst 2, 1) := by decide +kernel
theorem dX12_type_3 : decode cX12_type 3 = .ok (.invokestatic 35, 3) := by decide +kernel
theorem dX12_type_6 : decode cX12_type 6 = .ok (.ifCond .eq 12, 3) := by decide +kernel
theorem dX12_type_9 : decode cX12_type 9 = .ok (.iload_n 2, 1) := by decide +kernel
theorem dX12_type_10 : decode cX12_type 10 = .ok (.iconst 0, 1) := by decide +kernel
theorem dX12_type_11 : decode cX12_type 11 = .ok (.iconst 2, 1) := by decide +kernel
theorem dX12_type_12 : decode cX12_type 12 = .ok (.invokestatic 35, 3) := by decide +kernel
theorem dX12_type_15 : decode cX12_type 15 = .ok (.ifCond .ne 6, 3) := by decide +kernel
theorem dX12_type_18 : decode cX12_type 18 = .ok (.bipush (-3), 2) := by decide +kernel
theorem dX12_type_20 : decode cX12_type 20 = .ok (.ireturn, 1) := by decide +kernel
theorem dX12_type_21 : decode cX12_type 21 = .ok (.iload_n 2, 1) := by decide +kernel
theorem dX12_type_22 : decode cX12_type 22 = .ok (.ifCond .ne 16, 3) := by decide +kernel
theorem dX12_type_25 : decode cX12_type 25 = .ok (.aload_n 0, 1) := by decide +kernel
theorem dX12_type_26 : decode cX12_type 26 = .ok (.getfield 7, 3) := by decide +kernel
theorem dX12_type_29 : decode cX12_type 29 = .ok (.sipush 222, 3) := by decide +kernel
theorem dX12_type_32 : decode cX12_type 32 = .ok (.iload_n 1, 1) := by decide +kernel
theorem dX12_type_33 : decode cX12_type 33 = .ok (.iadd, 1) := by decide +kernel
theorem dX12_type_34 : decode cX12_type 34 = .ok (.iaload, 1) := by decide +kernel
theorem dX12_type_35 : decode cX12_type 35 = .ok (.goto 31, 3) := by decide +kernel
theorem dX12_type_38 : decode cX12_type 38 = .ok (.iload_n 2, 1) := by decide +kernel
theorem dX12_type_39 : decode cX12_type 39 = .ok (.iconst 1, 1) := by decide +kernel
theorem dX12_type_40 : decode cX12_type 40 = .ok (.if_icmp .ne 16, 3) := by decide +kernel
theorem dX12_type_43 : decode cX12_type 43 = .ok (.aload_n 0, 1) := by decide +kernel
theorem dX12_type_44 : decode cX12_type 44 = .ok (.getfield 7, 3) := by decide +kernel
theorem dX12_type_47 : decode cX12_type 47 = .ok (.sipush 225, 3) := by decide +kernel
theorem dX12_type_50 : decode cX12_type 50 = .ok (.iload_n 1, 1) := by decide +kernel
theorem dX12_type_51 : decode cX12_type 51 = .ok (.iadd, 1) := by decide +kernel
theorem dX12_type_52 : decode cX12_type 52 = .ok (.iaload, 1) := by decide +kernel
theorem dX12_type_53 : decode cX12_type 53 = .ok (.goto 13, 3) := by decide +kernel
theorem dX12_type_56 : decode cX12_type 56 = .ok (.aload_n 0, 1) := by decide +kernel
theorem dX12_type_57 : decode cX12_type 57 = .ok (.getfield 7, 3) := by decide +kernel
theorem dX12_type_60 : decode cX12_type 60 = .ok (.sipush 228, 3) := by decide +kernel
theorem dX12_type_63 : decode cX12_type 63 = .ok (.iload_n 1, 1) := by decide +kernel
theorem dX12_type_64 : decode cX12_type 64 = .ok (.iadd, 1) := by decide +kernel
theorem dX12_type_65 : decode cX12_type 65 = .ok (.iaload, 1) := by decide +kernel
theorem dX12_type_66 : decode cX12_type 66 = .ok (.ireturn, 1) := by decide +kernel
theorem dX12_time_0 : decode cX12_time 0 = .ok (.aload_n 0, 1) := by decide +kernel
theorem dX12_time_1 : decode cX12_time 1 = .ok (.getfield 7, 3) := by decide +kernel
theorem dX12_time_4 : decode cX12_time 4 = .ok (.bipush 9, 2) := by decide +kernel
theorem dX12_time_6 : decode cX12_time 6 = .ok (.iaload, 1) := by decide +kernel
theorem dX12_time_7 : decode cX12_time 7 = .ok (.ireturn, 1) := by decide +kernel
theorem dX12_counted_0 : decode cX12_counted 0 = .ok (.iload_n 1, 1) := by decide +kernel
theorem dX12_counted_1 : decode cX12_counted 1 = .ok (.iconst 0, 1) := by decide +kernel
theorem dX12_counted_2 : decode cX12_counted 2 = .ok (.bipush 8, 2) := by decide +kernel
theorem dX12_counted_4 : decode cX12_counted 4 = .ok (.invokestatic 35, 3) := by decide +kernel
theorem dX12_counted_7 : decode cX12_counted 7 = .ok (.ifCond .eq 16, 3) := by decide +kernel
theorem dX12_counted_10 : decode cX12_counted 10 = .ok (.aload_n 0, 1) := by decide +kernel
theorem dX12_counted_11 : decode cX12_counted 11 = .ok (.getfield 7, 3) := by decide +kernel
theorem dX12_counted_14 : decode cX12_counted 14 = .ok (.sipush 231, 3) := by decide +kernel
theorem dX12_counted_17 : decode cX12_counted 17 = .ok (.iload_n 1, 1) := by decide +kernel
theorem dX12_counted_18 : decode cX12_counted 18 = .ok (.iadd, 1) := by decide +kernel
theorem dX12_counted_19 : decode cX12_counted 19 = .ok (.iaload, 1) := by decide +kernel
theorem dX12_counted_20 : decode cX12_counted 20 = .ok (.goto 5, 3) := by decide +kernel
theorem dX12_counted_23 : decode cX12_counted 23 = .ok (.bipush (-3), 2) := by decide +kernel
theorem dX12_counted_25 : decode cX12_counted 25 = .ok (.ireturn, 1) := by decide +kernel
theorem dX12_cost_0 : decode cX12_cost 0 = .ok (.iconst 2, 1) := by decide +kernel
theorem dX12_cost_1 : decode cX12_cost 1 = .ok (.aload_n 0, 1) := by decide +kernel
theorem dX12_cost_2 : decode cX12_cost 2 = .ok (.getfield 7, 3) := by decide +kernel
theorem dX12_cost_5 : decode cX12_cost 5 = .ok (.sipush 231, 3) := by decide +kernel
theorem dX12_cost_8 : decode cX12_cost 8 = .ok (.iaload, 1) := by decide +kernel
theorem dX12_cost_9 : decode cX12_cost 9 = .ok (.imul, 1) := by decide +kernel
theorem dX12_cost_10 : decode cX12_cost 10 = .ok (.bipush 20, 2) := by decide +kernel
theorem dX12_cost_12 : decode cX12_cost 12 = .ok (.aload_n 0, 1) := by decide +kernel
theorem dX12_cost_13 : decode cX12_cost 13 = .ok (.getfield 7, 3) := by decide +kernel
theorem dX12_cost_16 : decode cX12_cost 16 = .ok (.sipush 232, 3) := by decide +kernel
theorem dX12_cost_19 : decode cX12_cost 19 = .ok (.iaload, 1) := by decide +kernel
theorem dX12_cost_20 : decode cX12_cost 20 = .ok (.imul, 1) := by decide +kernel
theorem dX12_cost_21 : decode cX12_cost 21 = .ok (.iadd, 1) := by decide +kernel
theorem dX12_cost_22 : decode cX12_cost 22 = .ok (.bipush 10, 2) := by decide +kernel
theorem dX12_cost_24 : decode cX12_cost 24 = .ok (.aload_n 0, 1) := by decide +kernel
theorem dX12_cost_25 : decode cX12_cost 25 = .ok (.getfield 7, 3) := by decide +kernel
theorem dX12_cost_28 : decode cX12_cost 28 = .ok (.sipush 233, 3) := by decide +kernel
theorem dX12_cost_31 : decode cX12_cost 31 = .ok (.iaload, 1) := by decide +kernel
theorem dX12_cost_32 : decode cX12_cost 32 = .ok (.imul, 1) := by decide +kernel
theorem dX12_cost_33 : decode cX12_cost 33 = .ok (.iadd, 1) := by decide +kernel
theorem dX12_cost_34 : decode cX12_cost 34 = .ok (.iconst 5, 1) := by decide +kernel
theorem dX12_cost_35 : decode cX12_cost 35 = .ok (.aload_n 0, 1) := by decide +kernel
theorem dX12_cost_36 : decode cX12_cost 36 = .ok (.getfield 7, 3) := by decide +kernel
theorem dX12_cost_39 : decode cX12_cost 39 = .ok (.sipush 234, 3) := by decide +kernel
theorem dX12_cost_42 : decode cX12_cost 42 = .ok (.iaload, 1) := by decide +kernel
theorem dX12_cost_43 : decode cX12_cost 43 = .ok (.imul, 1) := by decide +kernel
theorem dX12_cost_44 : decode cX12_cost 44 = .ok (.iadd, 1) := by decide +kernel
theorem dX12_cost_45 : decode cX12_cost 45 = .ok (.bipush 30, 2) := by decide +kernel
theorem dX12_cost_47 : decode cX12_cost 47 = .ok (.aload_n 0, 1) := by decide +kernel
theorem dX12_cost_48 : decode cX12_cost 48 = .ok (.getfield 7, 3) := by decide +kernel
theorem dX12_cost_51 : decode cX12_cost 51 = .ok (.sipush 235, 3) := by decide +kernel
theorem dX12_cost_54 : decode cX12_cost 54 = .ok (.iaload, 1) := by decide +kernel
theorem dX12_cost_55 : decode cX12_cost 55 = .ok (.imul, 1) := by decide +kernel
theorem dX12_cost_56 : decode cX12_cost 56 = .ok (.iadd, 1) := by decide +kernel
theorem dX12_cost_57 : decode cX12_cost 57 = .ok (.iconst 5, 1) := by decide +kernel
theorem dX12_cost_58 : decode cX12_cost 58 = .ok (.aload_n 0, 1) := by decide +kernel
theorem dX12_cost_59 : decode cX12_cost 59 = .ok (.getfield 7, 3) := by decide +kernel
theorem dX12_cost_62 : decode cX12_cost 62 = .ok (.sipush 236, 3) := by decide +kernel
theorem dX12_cost_65 : decode cX12_cost 65 = .ok (.iaload, 1) := by decide +kernel
theorem dX12_cost_66 : decode cX12_cost 66 = .ok (.imul, 1) := by decide +kernel
theorem dX12_cost_67 : decode cX12_cost 67 = .ok (.iadd, 1) := by decide +kernel
theorem dX12_cost_68 : decode cX12_cost 68 = .ok (.iconst 3, 1) := by decide +kernel
theorem dX12_cost_69 : decode cX12_cost 69 = .ok (.aload_n 0, 1) := by decide +kernel
theorem dX12_cost_70 : decode cX12_cost 70 = .ok (.getfield 7, 3) := by decide +kernel
theorem dX12_cost_73 : decode cX12_cost 73 = .ok (.sipush 237, 3) := by decide +kernel
theorem dX12_cost_76 : decode cX12_cost 76 = .ok (.iaload, 1) := by decide +kernel
theorem dX12_cost_77 : decode cX12_cost 77 = .ok (.imul, 1) := by decide +kernel
theorem dX12_cost_78 : decode cX12_cost 78 = .ok (.iadd, 1) := by decide +kernel
theorem dX12_cost_79 : decode cX12_cost 79 = .ok (.ireturn, 1) := by decide +kernel
theorem dX12_recorded_0 : decode cX12_recorded 0 = .ok (.aload_n 0, 1) := by decide +kernel
theorem dX12_recorded_1 : decode cX12_recorded 1 = .ok (.getfield 7, 3) := by decide +kernel
theorem dX12_recorded_4 : decode cX12_recorded 4 = .ok (.sipush 241, 3) := by decide +kernel
theorem dX12_recorded_7 : decode cX12_recorded 7 = .ok (.iaload, 1) := by decide +kernel
theorem dX12_recorded_8 : decode cX12_recorded 8 = .ok (.ireturn, 1) := by decide +kernel
theorem dX12_operate_0 : decode cX12_operate 0 = .ok (.iload_n 1, 1) := by decide +kernel
theorem dX12_operate_1 : decode cX12_operate 1 = .ok (.tableswitch 112 0 8 #[51, 58, 65, 74, 81, 88, 94, 100, 106], 51) := by decide +kernel
theorem dX12_operate_52 : decode cX12_operate 52 = .ok (.aload_n 0, 1) := by decide +kernel
theorem dX12_operate_53 : decode cX12_operate 53 = .ok (.iload_n 2, 1) := by decide +kernel
theorem dX12_operate_54 : decode cX12_operate 54 = .ok (.iload_n 3, 1) := by decide +kernel
theorem dX12_operate_55 : decode cX12_operate 55 = .ok (.invokevirtual 194, 3) := by decide +kernel
theorem dX12_operate_58 : decode cX12_operate 58 = .ok (.ireturn, 1) := by decide +kernel
theorem dX12_operate_59 : decode cX12_operate 59 = .ok (.aload_n 0, 1) := by decide +kernel
theorem dX12_operate_60 : decode cX12_operate 60 = .ok (.iload_n 2, 1) := by decide +kernel
theorem dX12_operate_61 : decode cX12_operate 61 = .ok (.iload_n 3, 1) := by decide +kernel
theorem dX12_operate_62 : decode cX12_operate 62 = .ok (.invokevirtual 197, 3) := by decide +kernel
theorem dX12_operate_65 : decode cX12_operate 65 = .ok (.ireturn, 1) := by decide +kernel
theorem dX12_operate_66 : decode cX12_operate 66 = .ok (.aload_n 0, 1) := by decide +kernel
theorem dX12_operate_67 : decode cX12_operate 67 = .ok (.iload_n 2, 1) := by decide +kernel
theorem dX12_operate_68 : decode cX12_operate 68 = .ok (.iload_n 3, 1) := by decide +kernel
theorem dX12_operate_69 : decode cX12_operate 69 = .ok (.iload 4, 2) := by decide +kernel
theorem dX12_operate_71 : decode cX12_operate 71 = .ok (.invokevirtual 200, 3) := by decide +kernel
theorem dX12_operate_74 : decode cX12_operate 74 = .ok (.ireturn, 1) := by decide +kernel
theorem dX12_operate_75 : decode cX12_operate 75 = .ok (.aload_n 0, 1) := by decide +kernel
theorem dX12_operate_76 : decode cX12_operate 76 = .ok (.iload_n 2, 1) := by decide +kernel
theorem dX12_operate_77 : decode cX12_operate 77 = .ok (.iload_n 3, 1) := by decide +kernel
theorem dX12_operate_78 : decode cX12_operate 78 = .ok (.invokevirtual 204, 3) := by decide +kernel
theorem dX12_operate_81 : decode cX12_operate 81 = .ok (.ireturn, 1) := by decide +kernel
theorem dX12_operate_82 : decode cX12_operate 82 = .ok (.aload_n 0, 1) := by decide +kernel
theorem dX12_operate_83 : decode cX12_operate 83 = .ok (.iload_n 2, 1) := by decide +kernel
theorem dX12_operate_84 : decode cX12_operate 84 = .ok (.iload_n 3, 1) := by decide +kernel
theorem dX12_operate_85 : decode cX12_operate 85 = .ok (.invokevirtual 207, 3) := by decide +kernel
theorem dX12_operate_88 : decode cX12_operate 88 = .ok (.ireturn, 1) := by decide +kernel
theorem dX12_operate_89 : decode cX12_operate 89 = .ok (.aload_n 0, 1) := by decide +kernel
theorem dX12_operate_90 : decode cX12_operate 90 = .ok (.iload_n 2, 1) := by decide +kernel
theorem dX12_operate_91 : decode cX12_operate 91 = .ok (.invokevirtual 210, 3) := by decide +kernel
theorem dX12_operate_94 : decode cX12_operate 94 = .ok (.ireturn, 1) := by decide +kernel
theorem dX12_operate_95 : decode cX12_operate 95 = .ok (.aload_n 0, 1) := by decide +kernel
theorem dX12_operate_96 : decode cX12_operate 96 = .ok (.iload_n 2, 1) := by decide +kernel
theorem dX12_operate_97 : decode cX12_operate 97 = .ok (.invokevirtual 213, 3) := by decide +kernel
theorem dX12_operate_100 : decode cX12_operate 100 = .ok (.ireturn, 1) := by decide +kernel
theorem dX12_operate_101 : decode cX12_operate 101 = .ok (.aload_n 0, 1) := by decide +kernel
theorem dX12_operate_102 : decode cX12_operate 102 = .ok (.iload_n 2, 1) := by decide +kernel
theorem dX12_operate_103 : decode cX12_operate 103 = .ok (.invokevirtual 216, 3) := by decide +kernel
theorem dX12_operate_106 : decode cX12_operate 106 = .ok (.ireturn, 1) := by decide +kernel
theorem dX12_operate_107 : decode cX12_operate 107 = .ok (.aload_n 0, 1) := by decide +kernel
theorem dX12_operate_108 : decode cX12_operate 108 = .ok (.iload_n 2, 1) := by decide +kernel
theorem dX12_operate_109 : decode cX12_operate 109 = .ok (.invokevirtual 219, 3) := by decide +kernel
theorem dX12_operate_112 : decode cX12_operate 112 = .ok (.ireturn, 1) := by decide +kernel
theorem dX12_operate_113 : decode cX12_operate 113 = .ok (.aload_n 0, 1) := by decide +kernel
theorem dX12_operate_114 : decode cX12_operate 114 = .ok (.iload_n 2, 1) := by decide +kernel
theorem dX12_operate_115 : decode cX12_operate 115 = .ok (.invokevirtual 222, 3) := by decide +kernel
theorem dX12_operate_118 : decode cX12_operate 118 = .ok (.ireturn, 1) := by decide +kernel
theorem dX12_replayed_0 : decode cX12_replayed 0 = .ok (.iconst 0, 1) := by decide +kernel
theorem dX12_replayed_1 : decode cX12_replayed 1 = .ok (.istore_n 3, 1) := by decide +kernel
theorem dX12_replayed_2 : decode cX12_replayed 2 = .ok (.iload_n 3, 1) := by decide +kernel
theorem dX12_replayed_3 : decode cX12_replayed 3 = .ok (.sipush 482, 3) := by decide +kernel
theorem dX12_replayed_6 : decode cX12_replayed 6 = .ok (.if_icmp .ge 21, 3) := by decide +kernel
theorem dX12_replayed_9 : decode cX12_replayed 9 = .ok (.aload_n 0, 1) := by decide +kernel
theorem dX12_replayed_10 : decode cX12_replayed 10 = .ok (.getfield 16, 3) := by decide +kernel
theorem dX12_replayed_13 : decode cX12_replayed 13 = .ok (.iload_n 3, 1) := by decide +kernel
theorem dX12_replayed_14 : decode cX12_replayed 14 = .ok (.aload_n 0, 1) := by decide +kernel
theorem dX12_replayed_15 : decode cX12_replayed 15 = .ok (.getfield 7, 3) := by decide +kernel
theorem dX12_replayed_18 : decode cX12_replayed 18 = .ok (.iload_n 3, 1) := by decide +kernel
theorem dX12_replayed_19 : decode cX12_replayed 19 = .ok (.iaload, 1) := by decide +kernel
theorem dX12_replayed_20 : decode cX12_replayed 20 = .ok (.iastore, 1) := by decide +kernel
theorem dX12_replayed_21 : decode cX12_replayed 21 = .ok (.iinc 3 1, 3) := by decide +kernel
theorem dX12_replayed_24 : decode cX12_replayed 24 = .ok (.goto (-22), 3) := by decide +kernel
theorem dX12_replayed_27 : decode cX12_replayed 27 = .ok (.aload_n 0, 1) := by decide +kernel
theorem dX12_replayed_28 : decode cX12_replayed 28 = .ok (.getfield 7, 3) := by decide +kernel
theorem dX12_replayed_31 : decode cX12_replayed 31 = .ok (.iconst 1, 1) := by decide +kernel
theorem dX12_replayed_32 : decode cX12_replayed 32 = .ok (.iload_n 1, 1) := by decide +kernel
theorem dX12_replayed_33 : decode cX12_replayed 33 = .ok (.iadd, 1) := by decide +kernel
theorem dX12_replayed_34 : decode cX12_replayed 34 = .ok (.iload_n 2, 1) := by decide +kernel
theorem dX12_replayed_35 : decode cX12_replayed 35 = .ok (.iastore, 1) := by decide +kernel
theorem dX12_replayed_36 : decode cX12_replayed 36 = .ok (.aload_n 0, 1) := by decide +kernel
theorem dX12_replayed_37 : decode cX12_replayed 37 = .ok (.aload_n 0, 1) := by decide +kernel
theorem dX12_replayed_38 : decode cX12_replayed 38 = .ok (.getfield 7, 3) := by decide +kernel
theorem dX12_replayed_41 : decode cX12_replayed 41 = .ok (.iconst 0, 1) := by decide +kernel
theorem dX12_replayed_42 : decode cX12_replayed 42 = .ok (.iaload, 1) := by decide +kernel
theorem dX12_replayed_43 : decode cX12_replayed 43 = .ok (.invokevirtual 31, 3) := by decide +kernel
theorem dX12_replayed_46 : decode cX12_replayed 46 = .ok (.iconst 0, 1) := by decide +kernel
theorem dX12_replayed_47 : decode cX12_replayed 47 = .ok (.istore_n 3, 1) := by decide +kernel
theorem dX12_replayed_48 : decode cX12_replayed 48 = .ok (.iload_n 3, 1) := by decide +kernel
theorem dX12_replayed_49 : decode cX12_replayed 49 = .ok (.aload_n 0, 1) := by decide +kernel
theorem dX12_replayed_50 : decode cX12_replayed 50 = .ok (.getfield 16, 3) := by decide +kernel
theorem dX12_replayed_53 : decode cX12_replayed 53 = .ok (.sipush 241, 3) := by decide +kernel
theorem dX12_replayed_56 : decode cX12_replayed 56 = .ok (.iaload, 1) := by decide +kernel
theorem dX12_replayed_57 : decode cX12_replayed 57 = .ok (.if_icmp .ge 58, 3) := by decide +kernel
theorem dX12_replayed_60 : decode cX12_replayed 60 = .ok (.sipush 242, 3) := by decide +kernel
theorem dX12_replayed_63 : decode cX12_replayed 63 = .ok (.iconst 4, 1) := by decide +kernel
theorem dX12_replayed_64 : decode cX12_replayed 64 = .ok (.iload_n 3, 1) := by decide +kernel
theorem dX12_replayed_65 : decode cX12_replayed 65 = .ok (.imul, 1) := by decide +kernel
theorem dX12_replayed_66 : decode cX12_replayed 66 = .ok (.iadd, 1) := by decide +kernel
theorem dX12_replayed_67 : decode cX12_replayed 67 = .ok (.istore 4, 2) := by decide +kernel
theorem dX12_replayed_69 : decode cX12_replayed 69 = .ok (.aload_n 0, 1) := by decide +kernel
theorem dX12_replayed_70 : decode cX12_replayed 70 = .ok (.aload_n 0, 1) := by decide +kernel
theorem dX12_replayed_71 : decode cX12_replayed 71 = .ok (.getfield 16, 3) := by decide +kernel
theorem dX12_replayed_74 : decode cX12_replayed 74 = .ok (.iload 4, 2) := by decide +kernel
theorem dX12_replayed_76 : decode cX12_replayed 76 = .ok (.iaload, 1) := by decide +kernel
theorem dX12_replayed_77 : decode cX12_replayed 77 = .ok (.aload_n 0, 1) := by decide +kernel
theorem dX12_replayed_78 : decode cX12_replayed 78 = .ok (.getfield 16, 3) := by decide +kernel
theorem dX12_replayed_81 : decode cX12_replayed 81 = .ok (.iload 4, 2) := by decide +kernel
theorem dX12_replayed_83 : decode cX12_replayed 83 = .ok (.iconst 1, 1) := by decide +kernel
theorem dX12_replayed_84 : decode cX12_replayed 84 = .ok (.iadd, 1) := by decide +kernel
theorem dX12_replayed_85 : decode cX12_replayed 85 = .ok (.iaload, 1) := by decide +kernel
theorem dX12_replayed_86 : decode cX12_replayed 86 = .ok (.aload_n 0, 1) := by decide +kernel
theorem dX12_replayed_87 : decode cX12_replayed 87 = .ok (.getfield 16, 3) := by decide +kernel
theorem dX12_replayed_90 : decode cX12_replayed 90 = .ok (.iload 4, 2) := by decide +kernel
theorem dX12_replayed_92 : decode cX12_replayed 92 = .ok (.iconst 2, 1) := by decide +kernel
theorem dX12_replayed_93 : decode cX12_replayed 93 = .ok (.iadd, 1) := by decide +kernel
theorem dX12_replayed_94 : decode cX12_replayed 94 = .ok (.iaload, 1) := by decide +kernel
theorem dX12_replayed_95 : decode cX12_replayed 95 = .ok (.aload_n 0, 1) := by decide +kernel
theorem dX12_replayed_96 : decode cX12_replayed 96 = .ok (.getfield 16, 3) := by decide +kernel
theorem dX12_replayed_99 : decode cX12_replayed 99 = .ok (.iload 4, 2) := by decide +kernel
theorem dX12_replayed_101 : decode cX12_replayed 101 = .ok (.iconst 3, 1) := by decide +kernel
theorem dX12_replayed_102 : decode cX12_replayed 102 = .ok (.iadd, 1) := by decide +kernel
theorem dX12_replayed_103 : decode cX12_replayed 103 = .ok (.iaload, 1) := by decide +kernel
theorem dX12_replayed_104 : decode cX12_replayed 104 = .ok (.invokevirtual 225, 3) := by decide +kernel
theorem dX12_replayed_107 : decode cX12_replayed 107 = .ok (.istore 5, 2) := by decide +kernel
theorem dX12_replayed_109 : decode cX12_replayed 109 = .ok (.iinc 3 1, 3) := by decide +kernel
theorem dX12_replayed_112 : decode cX12_replayed 112 = .ok (.goto (-64), 3) := by decide +kernel
theorem dX12_replayed_115 : decode cX12_replayed 115 = .ok (.aload_n 0, 1) := by decide +kernel
theorem dX12_replayed_116 : decode cX12_replayed 116 = .ok (.invokevirtual 229, 3) := by decide +kernel
theorem dX12_replayed_119 : decode cX12_replayed 119 = .ok (.istore_n 3, 1) := by decide +kernel
theorem dX12_replayed_120 : decode cX12_replayed 120 = .ok (.iconst 0, 1) := by decide +kernel
theorem dX12_replayed_121 : decode cX12_replayed 121 = .ok (.istore 4, 2) := by decide +kernel
theorem dX12_replayed_123 : decode cX12_replayed 123 = .ok (.iload 4, 2) := by decide +kernel
theorem dX12_replayed_125 : decode cX12_replayed 125 = .ok (.sipush 482, 3) := by decide +kernel
theorem dX12_replayed_128 : decode cX12_replayed 128 = .ok (.if_icmp .ge 23, 3) := by decide +kernel
theorem dX12_replayed_131 : decode cX12_replayed 131 = .ok (.aload_n 0, 1) := by decide +kernel
theorem dX12_replayed_132 : decode cX12_replayed 132 = .ok (.getfield 7, 3) := by decide +kernel
theorem dX12_replayed_135 : decode cX12_replayed 135 = .ok (.iload 4, 2) := by decide +kernel
theorem dX12_replayed_137 : decode cX12_replayed 137 = .ok (.aload_n 0, 1) := by decide +kernel
theorem dX12_replayed_138 : decode cX12_replayed 138 = .ok (.getfield 16, 3) := by decide +kernel
theorem dX12_replayed_141 : decode cX12_replayed 141 = .ok (.iload 4, 2) := by decide +kernel
theorem dX12_replayed_143 : decode cX12_replayed 143 = .ok (.iaload, 1) := by decide +kernel
theorem dX12_replayed_144 : decode cX12_replayed 144 = .ok (.iastore, 1) := by decide +kernel
theorem dX12_replayed_145 : decode cX12_replayed 145 = .ok (.iinc 4 1, 3) := by decide +kernel
theorem dX12_replayed_148 : decode cX12_replayed 148 = .ok (.goto (-25), 3) := by decide +kernel
theorem dX12_replayed_151 : decode cX12_replayed 151 = .ok (.iload_n 3, 1) := by decide +kernel
theorem dX12_replayed_152 : decode cX12_replayed 152 = .ok (.ireturn, 1) := by decide +kernel
theorem dX12_replayCost_0 : decode cX12_replayCost 0 = .ok (.iload_n 1, 1) := by decide +kernel
theorem dX12_replayCost_1 : decode cX12_replayCost 1 = .ok (.iload_n 2, 1) := by decide +kernel
theorem dX12_replayCost_2 : decode cX12_replayCost 2 = .ok (.invokestatic 46, 3) := by decide +kernel
theorem dX12_replayCost_5 : decode cX12_replayCost 5 = .ok (.ifCond .eq 12, 3) := by decide +kernel
theorem dX12_replayCost_8 : decode cX12_replayCost 8 = .ok (.aload_n 0, 1) := by decide +kernel
theorem dX12_replayCost_9 : decode cX12_replayCost 9 = .ok (.iload_n 1, 1) := by decide +kernel
theorem dX12_replayCost_10 : decode cX12_replayCost 10 = .ok (.iload_n 2, 1) := by decide +kernel
theorem dX12_replayCost_11 : decode cX12_replayCost 11 = .ok (.invokevirtual 232, 3) := by decide +kernel
theorem dX12_replayCost_14 : decode cX12_replayCost 14 = .ok (.goto 5, 3) := by decide +kernel
theorem dX12_replayCost_17 : decode cX12_replayCost 17 = .ok (.bipush (-3), 2) := by decide +kernel
theorem dX12_replayCost_19 : decode cX12_replayCost 19 = .ok (.ireturn, 1) := by decide +kernel
theorem dX12_bestValue_0 : decode cX12_bestValue 0 = .ok (.iload_n 1, 1) := by decide +kernel
theorem dX12_bestValue_1 : decode cX12_bestValue 1 = .ok (.iconst 0, 1) := by decide +kernel
theorem dX12_bestValue_2 : decode cX12_bestValue 2 = .ok (.bipush 7, 2) := by decide +kernel
theorem dX12_bestValue_4 : decode cX12_bestValue 4 = .ok (.invokestatic 35, 3) := by decide +kernel
theorem dX12_bestValue_7 : decode cX12_bestValue 7 = .ok (.ifCond .ne 6, 3) := by decide +kernel
theorem dX12_bestValue_10 : decode cX12_bestValue 10 = .ok (.bipush (-3), 2) := by decide +kernel
theorem dX12_bestValue_12 : decode cX12_bestValue 12 = .ok (.ireturn, 1) := by decide +kernel
theorem dX12_bestValue_13 : decode cX12_bestValue 13 = .ok (.iload_n 1, 1) := by decide +kernel
theorem dX12_bestValue_14 : decode cX12_bestValue 14 = .ok (.invokestatic 39, 3) := by decide +kernel
theorem dX12_bestValue_17 : decode cX12_bestValue 17 = .ok (.istore_n 2, 1) := by decide +kernel
theorem dX12_bestValue_18 : decode cX12_bestValue 18 = .ok (.aload_n 0, 1) := by decide +kernel
theorem dX12_bestValue_19 : decode cX12_bestValue 19 = .ok (.iload_n 1, 1) := by decide +kernel
theorem dX12_bestValue_20 : decode cX12_bestValue 20 = .ok (.iload_n 2, 1) := by decide +kernel
theorem dX12_bestValue_21 : decode cX12_bestValue 21 = .ok (.invokevirtual 232, 3) := by decide +kernel
theorem dX12_bestValue_24 : decode cX12_bestValue 24 = .ok (.istore_n 3, 1) := by decide +kernel
theorem dX12_bestValue_25 : decode cX12_bestValue 25 = .ok (.iload_n 2, 1) := by decide +kernel
theorem dX12_bestValue_26 : decode cX12_bestValue 26 = .ok (.iconst 1, 1) := by decide +kernel
theorem dX12_bestValue_27 : decode cX12_bestValue 27 = .ok (.iadd, 1) := by decide +kernel
theorem dX12_bestValue_28 : decode cX12_bestValue 28 = .ok (.istore 4, 2) := by decide +kernel
theorem dX12_bestValue_30 : decode cX12_bestValue 30 = .ok (.iload 4, 2) := by decide +kernel
theorem dX12_bestValue_32 : decode cX12_bestValue 32 = .ok (.iload_n 1, 1) := by decide +kernel
theorem dX12_bestValue_33 : decode cX12_bestValue 33 = .ok (.invokestatic 43, 3) := by decide +kernel
theorem dX12_bestValue_36 : decode cX12_bestValue 36 = .ok (.if_icmp .gt 30, 3) := by decide +kernel
theorem dX12_bestValue_39 : decode cX12_bestValue 39 = .ok (.aload_n 0, 1) := by decide +kernel
theorem dX12_bestValue_40 : decode cX12_bestValue 40 = .ok (.iload_n 1, 1) := by decide +kernel
theorem dX12_bestValue_41 : decode cX12_bestValue 41 = .ok (.iload 4, 2) := by decide +kernel
theorem dX12_bestValue_43 : decode cX12_bestValue 43 = .ok (.invokevirtual 232, 3) := by decide +kernel
theorem dX12_bestValue_46 : decode cX12_bestValue 46 = .ok (.istore 5, 2) := by decide +kernel
theorem dX12_bestValue_48 : decode cX12_bestValue 48 = .ok (.iload 5, 2) := by decide +kernel
theorem dX12_bestValue_50 : decode cX12_bestValue 50 = .ok (.iload_n 3, 1) := by decide +kernel
theorem dX12_bestValue_51 : decode cX12_bestValue 51 = .ok (.if_icmp .ge 9, 3) := by decide +kernel
theorem dX12_bestValue_54 : decode cX12_bestValue 54 = .ok (.iload 4, 2) := by decide +kernel
theorem dX12_bestValue_56 : decode cX12_bestValue 56 = .ok (.istore_n 2, 1) := by decide +kernel
theorem dX12_bestValue_57 : decode cX12_bestValue 57 = .ok (.iload 5, 2) := by decide +kernel
theorem dX12_bestValue_59 : decode cX12_bestValue 59 = .ok (.istore_n 3, 1) := by decide +kernel
theorem dX12_bestValue_60 : decode cX12_bestValue 60 = .ok (.iinc 4 1, 3) := by decide +kernel
theorem dX12_bestValue_63 : decode cX12_bestValue 63 = .ok (.goto (-33), 3) := by decide +kernel
theorem dX12_bestValue_66 : decode cX12_bestValue 66 = .ok (.iload_n 2, 1) := by decide +kernel
theorem dX12_bestValue_67 : decode cX12_bestValue 67 = .ok (.ireturn, 1) := by decide +kernel
theorem dX12_write_0 : decode cX12_write 0 = .ok (.iload_n 1, 1) := by decide +kernel
theorem dX12_write_1 : decode cX12_write 1 = .ok (.bipush 32, 2) := by decide +kernel
theorem dX12_write_3 : decode cX12_write 3 = .ok (.bipush 126, 2) := by decide +kernel
theorem dX12_write_5 : decode cX12_write 5 = .ok (.invokestatic 35, 3) := by decide +kernel
theorem dX12_write_8 : decode cX12_write 8 = .ok (.ifCond .ne 6, 3) := by decide +kernel
theorem dX12_write_11 : decode cX12_write 11 = .ok (.bipush (-3), 2) := by decide +kernel
theorem dX12_write_13 : decode cX12_write 13 = .ok (.ireturn, 1) := by decide +kernel
theorem dX12_write_14 : decode cX12_write 14 = .ok (.aload_n 0, 1) := by decide +kernel
theorem dX12_write_15 : decode cX12_write 15 = .ok (.getfield 235, 3) := by decide +kernel
theorem dX12_write_18 : decode cX12_write 18 = .ok (.sipush 200, 3) := by decide +kernel
theorem dX12_write_21 : decode cX12_write 21 = .ok (.if_icmp .ne 6, 3) := by decide +kernel
theorem dX12_write_24 : decode cX12_write 24 = .ok (.bipush (-6), 2) := by decide +kernel
theorem dX12_write_26 : decode cX12_write 26 = .ok (.ireturn, 1) := by decide +kernel
theorem dX12_write_27 : decode cX12_write 27 = .ok (.aload_n 0, 1) := by decide +kernel
theorem dX12_write_28 : decode cX12_write 28 = .ok (.getfield 22, 3) := by decide +kernel
theorem dX12_write_31 : decode cX12_write 31 = .ok (.aload_n 0, 1) := by decide +kernel
theorem dX12_write_32 : decode cX12_write 32 = .ok (.getfield 235, 3) := by decide +kernel
theorem dX12_write_35 : decode cX12_write 35 = .ok (.iload_n 1, 1) := by decide +kernel
theorem dX12_write_36 : decode cX12_write 36 = .ok (.iastore, 1) := by decide +kernel
theorem dX12_write_37 : decode cX12_write 37 = .ok (.aload_n 0, 1) := by decide +kernel
theorem dX12_write_38 : decode cX12_write 38 = .ok (.dup, 1) := by decide +kernel
theorem dX12_write_39 : decode cX12_write 39 = .ok (.getfield 235, 3) := by decide +kernel
theorem dX12_write_42 : decode cX12_write 42 = .ok (.iconst 1, 1) := by decide +kernel
theorem dX12_write_43 : decode cX12_write 43 = .ok (.iadd, 1) := by decide +kernel
theorem dX12_write_44 : decode cX12_write 44 = .ok (.putfield 235, 3) := by decide +kernel
theorem dX12_write_47 : decode cX12_write 47 = .ok (.aload_n 0, 1) := by decide +kernel
theorem dX12_write_48 : decode cX12_write 48 = .ok (.getfield 235, 3) := by decide +kernel
theorem dX12_write_51 : decode cX12_write 51 = .ok (.ireturn, 1) := by decide +kernel
theorem dX12_wipe_0 : decode cX12_wipe 0 = .ok (.aload_n 0, 1) := by decide +kernel
theorem dX12_wipe_1 : decode cX12_wipe 1 = .ok (.getfield 235, 3) := by decide +kernel
theorem dX12_wipe_4 : decode cX12_wipe 4 = .ok (.istore_n 1, 1) := by decide +kernel
theorem dX12_wipe_5 : decode cX12_wipe 5 = .ok (.aload_n 0, 1) := by decide +kernel
theorem dX12_wipe_6 : decode cX12_wipe 6 = .ok (.iconst 0, 1) := by decide +kernel
theorem dX12_wipe_7 : decode cX12_wipe 7 = .ok (.putfield 235, 3) := by decide +kernel
theorem dX12_wipe_10 : decode cX12_wipe 10 = .ok (.iload_n 1, 1) := by decide +kernel
theorem dX12_wipe_11 : decode cX12_wipe 11 = .ok (.ireturn, 1) := by decide +kernel
theorem dX12_operationWord_0 : decode cX12_operationWord 0 = .ok (.iload_n 0, 1) := by decide +kernel
theorem dX12_operationWord_1 : decode cX12_operationWord 1 = .ok (.tableswitch 83 0 8 #[51, 55, 59, 63, 63, 67, 71, 75, 79], 51) := by decide +kernel
theorem dX12_operationWord_52 : decode cX12_operationWord 52 = .ok (.getstatic 238, 3) := by decide +kernel
theorem dX12_operationWord_55 : decode cX12_operationWord 55 = .ok (.lreturn, 1) := by decide +kernel
theorem dX12_operationWord_56 : decode cX12_operationWord 56 = .ok (.getstatic 241, 3) := by decide +kernel
theorem dX12_operationWord_59 : decode cX12_operationWord 59 = .ok (.lreturn, 1) := by decide +kernel
theorem dX12_operationWord_60 : decode cX12_operationWord 60 = .ok (.getstatic 244, 3) := by decide +kernel
theorem dX12_operationWord_63 : decode cX12_operationWord 63 = .ok (.lreturn, 1) := by decide +kernel
theorem dX12_operationWord_64 : decode cX12_operationWord 64 = .ok (.getstatic 247, 3) := by decide +kernel
theorem dX12_operationWord_67 : decode cX12_operationWord 67 = .ok (.lreturn, 1) := by decide +kernel
theorem dX12_operationWord_68 : decode cX12_operationWord 68 = .ok (.getstatic 250, 3) := by decide +kernel
theorem dX12_operationWord_71 : decode cX12_operationWord 71 = .ok (.lreturn, 1) := by decide +kernel
theorem dX12_operationWord_72 : decode cX12_operationWord 72 = .ok (.getstatic 253, 3) := by decide +kernel
theorem dX12_operationWord_75 : decode cX12_operationWord 75 = .ok (.lreturn, 1) := by decide +kernel
theorem dX12_operationWord_76 : decode cX12_operationWord 76 = .ok (.getstatic 256, 3) := by decide +kernel
theorem dX12_operationWord_79 : decode cX12_operationWord 79 = .ok (.lreturn, 1) := by decide +kernel
theorem dX12_operationWord_80 : decode cX12_operationWord 80 = .ok (.getstatic 259, 3) := by decide +kernel
theorem dX12_operationWord_83 : decode cX12_operationWord 83 = .ok (.lreturn, 1) := by decide +kernel
theorem dX12_operationWord_84 : decode cX12_operationWord 84 = .ok (.getstatic 262, 3) := by decide +kernel
theorem dX12_operationWord_87 : decode cX12_operationWord 87 = .ok (.lreturn, 1) := by decide +kernel
theorem dX12_passes_0 : decode cX12_passes 0 = .ok (.aload_n 0, 1) := by decide +kernel
theorem dX12_passes_1 : decode cX12_passes 1 = .ok (.iconst 0, 1) := by decide +kernel
theorem dX12_passes_2 : decode cX12_passes 2 = .ok (.putfield 130, 3) := by decide +kernel
theorem dX12_passes_5 : decode cX12_passes 5 = .ok (.aload_n 0, 1) := by decide +kernel
theorem dX12_passes_6 : decode cX12_passes 6 = .ok (.iload_n 1, 1) := by decide +kernel
theorem dX12_passes_7 : decode cX12_passes 7 = .ok (.invokestatic 265, 3) := by decide +kernel
theorem dX12_passes_10 : decode cX12_passes 10 = .ok (.invokevirtual 158, 3) := by decide +kernel
theorem dX12_passes_13 : decode cX12_passes 13 = .ok (.iload_n 1, 1) := by decide +kernel
theorem dX12_passes_14 : decode cX12_passes 14 = .ok (.iconst 4, 1) := by decide +kernel
theorem dX12_passes_15 : decode cX12_passes 15 = .ok (.if_icmp .ne 21, 3) := by decide +kernel
theorem dX12_passes_18 : decode cX12_passes 18 = .ok (.aload_n 0, 1) := by decide +kernel
theorem dX12_passes_19 : decode cX12_passes 19 = .ok (.bipush 65, 2) := by decide +kernel
theorem dX12_passes_21 : decode cX12_passes 21 = .ok (.invokevirtual 136, 3) := by decide +kernel
theorem dX12_passes_24 : decode cX12_passes 24 = .ok (.aload_n 0, 1) := by decide +kernel
theorem dX12_passes_25 : decode cX12_passes 25 = .ok (.bipush 108, 2) := by decide +kernel
theorem dX12_passes_27 : decode cX12_passes 27 = .ok (.invokevirtual 136, 3) := by decide +kernel
theorem dX12_passes_30 : decode cX12_passes 30 = .ok (.aload_n 0, 1) := by decide +kernel
theorem dX12_passes_31 : decode cX12_passes 31 = .ok (.bipush 108, 2) := by decide +kernel
theorem dX12_passes_33 : decode cX12_passes 33 = .ok (.invokevirtual 136, 3) := by decide +kernel
theorem dX12_passes_36 : decode cX12_passes 36 = .ok (.iload_n 1, 1) := by decide +kernel
theorem dX12_passes_37 : decode cX12_passes 37 = .ok (.iconst 5, 1) := by decide +kernel
theorem dX12_passes_38 : decode cX12_passes 38 = .ok (.if_icmp .ne 9, 3) := by decide +kernel
theorem dX12_passes_41 : decode cX12_passes 41 = .ok (.aload_n 0, 1) := by decide +kernel
theorem dX12_passes_42 : decode cX12_passes 42 = .ok (.bipush 116, 2) := by decide +kernel
theorem dX12_passes_44 : decode cX12_passes 44 = .ok (.invokevirtual 136, 3) := by decide +kernel
theorem dX12_passes_47 : decode cX12_passes 47 = .ok (.aload_n 0, 1) := by decide +kernel
theorem dX12_passes_48 : decode cX12_passes 48 = .ok (.getfield 268, 3) := by decide +kernel
theorem dX12_passes_51 : decode cX12_passes 51 = .ok (.aload_n 0, 1) := by decide +kernel
theorem dX12_passes_52 : decode cX12_passes 52 = .ok (.getfield 130, 3) := by decide +kernel
theorem dX12_passes_55 : decode cX12_passes 55 = .ok (.iadd, 1) := by decide +kernel
theorem dX12_passes_56 : decode cX12_passes 56 = .ok (.aload_n 0, 1) := by decide +kernel
theorem dX12_passes_57 : decode cX12_passes 57 = .ok (.getfield 235, 3) := by decide +kernel
theorem dX12_passes_60 : decode cX12_passes 60 = .ok (.if_icmp .ge 26, 3) := by decide +kernel
theorem dX12_passes_63 : decode cX12_passes 63 = .ok (.aload_n 0, 1) := by decide +kernel
theorem dX12_passes_64 : decode cX12_passes 64 = .ok (.getfield 22, 3) := by decide +kernel
theorem dX12_passes_67 : decode cX12_passes 67 = .ok (.aload_n 0, 1) := by decide +kernel
theorem dX12_passes_68 : decode cX12_passes 68 = .ok (.getfield 268, 3) := by decide +kernel
theorem dX12_passes_71 : decode cX12_passes 71 = .ok (.aload_n 0, 1) := by decide +kernel
theorem dX12_passes_72 : decode cX12_passes 72 = .ok (.getfield 130, 3) := by decide +kernel
theorem dX12_passes_75 : decode cX12_passes 75 = .ok (.iadd, 1) := by decide +kernel
theorem dX12_passes_76 : decode cX12_passes 76 = .ok (.iaload, 1) := by decide +kernel
theorem dX12_passes_77 : decode cX12_passes 77 = .ok (.bipush 32, 2) := by decide +kernel
theorem dX12_passes_79 : decode cX12_passes 79 = .ok (.if_icmp .ne 7, 3) := by decide +kernel
theorem dX12_passes_82 : decode cX12_passes 82 = .ok (.iconst 1, 1) := by decide +kernel
theorem dX12_passes_83 : decode cX12_passes 83 = .ok (.goto 4, 3) := by decide +kernel
theorem dX12_passes_86 : decode cX12_passes 86 = .ok (.iconst 0, 1) := by decide +kernel
theorem dX12_passes_87 : decode cX12_passes 87 = .ok (.istore_n 2, 1) := by decide +kernel
theorem dX12_passes_88 : decode cX12_passes 88 = .ok (.iconst 0, 1) := by decide +kernel
theorem dX12_passes_89 : decode cX12_passes 89 = .ok (.istore_n 3, 1) := by decide +kernel
theorem dX12_passes_90 : decode cX12_passes 90 = .ok (.iload_n 3, 1) := by decide +kernel
theorem dX12_passes_91 : decode cX12_passes 91 = .ok (.aload_n 0, 1) := by decide +kernel
theorem dX12_passes_92 : decode cX12_passes 92 = .ok (.getfield 130, 3) := by decide +kernel
theorem dX12_passes_95 : decode cX12_passes 95 = .ok (.if_icmp .ge 39, 3) := by decide +kernel
theorem dX12_passes_98 : decode cX12_passes 98 = .ok (.iload_n 2, 1) := by decide +kernel
theorem dX12_passes_99 : decode cX12_passes 99 = .ok (.ifCond .eq 35, 3) := by decide +kernel
theorem dX12_passes_102 : decode cX12_passes 102 = .ok (.aload_n 0, 1) := by decide +kernel
theorem dX12_passes_103 : decode cX12_passes 103 = .ok (.getfield 22, 3) := by decide +kernel
theorem dX12_passes_106 : decode cX12_passes 106 = .ok (.aload_n 0, 1) := by decide +kernel
theorem dX12_passes_107 : decode cX12_passes 107 = .ok (.getfield 268, 3) := by decide +kernel
theorem dX12_passes_110 : decode cX12_passes 110 = .ok (.iload_n 3, 1) := by decide +kernel
theorem dX12_passes_111 : decode cX12_passes 111 = .ok (.iadd, 1) := by decide +kernel
theorem dX12_passes_112 : decode cX12_passes 112 = .ok (.iaload, 1) := by decide +kernel
theorem dX12_passes_113 : decode cX12_passes 113 = .ok (.aload_n 0, 1) := by decide +kernel
theorem dX12_passes_114 : decode cX12_passes 114 = .ok (.getfield 25, 3) := by decide +kernel
theorem dX12_passes_117 : decode cX12_passes 117 = .ok (.iload_n 3, 1) := by decide +kernel
theorem dX12_passes_118 : decode cX12_passes 118 = .ok (.iaload, 1) := by decide +kernel
theorem dX12_passes_119 : decode cX12_passes 119 = .ok (.if_icmp .ne 7, 3) := by decide +kernel
theorem dX12_passes_122 : decode cX12_passes 122 = .ok (.iconst 1, 1) := by decide +kernel
theorem dX12_passes_123 : decode cX12_passes 123 = .ok (.goto 4, 3) := by decide +kernel
theorem dX12_passes_126 : decode cX12_passes 126 = .ok (.iconst 0, 1) := by decide +kernel
theorem dX12_passes_127 : decode cX12_passes 127 = .ok (.istore_n 2, 1) := by decide +kernel
theorem dX12_passes_128 : decode cX12_passes 128 = .ok (.iinc 3 1, 3) := by decide +kernel
theorem dX12_passes_131 : decode cX12_passes 131 = .ok (.goto (-41), 3) := by decide +kernel
theorem dX12_passes_134 : decode cX12_passes 134 = .ok (.aload_n 0, 1) := by decide +kernel
theorem dX12_passes_135 : decode cX12_passes 135 = .ok (.dup, 1) := by decide +kernel
theorem dX12_passes_136 : decode cX12_passes 136 = .ok (.getfield 268, 3) := by decide +kernel
theorem dX12_passes_139 : decode cX12_passes 139 = .ok (.iload_n 2, 1) := by decide +kernel
theorem dX12_passes_140 : decode cX12_passes 140 = .ok (.ifCond .eq 10, 3) := by decide +kernel
theorem dX12_passes_143 : decode cX12_passes 143 = .ok (.aload_n 0, 1) := by decide +kernel
theorem dX12_passes_144 : decode cX12_passes 144 = .ok (.getfield 130, 3) := by decide +kernel
theorem dX12_passes_147 : decode cX12_passes 147 = .ok (.goto 4, 3) := by decide +kernel
theorem dX12_passes_150 : decode cX12_passes 150 = .ok (.iconst 0, 1) := by decide +kernel
theorem dX12_passes_151 : decode cX12_passes 151 = .ok (.iadd, 1) := by decide +kernel
theorem dX12_passes_152 : decode cX12_passes 152 = .ok (.putfield 268, 3) := by decide +kernel
theorem dX12_passes_155 : decode cX12_passes 155 = .ok (.iload_n 2, 1) := by decide +kernel
theorem dX12_passes_156 : decode cX12_passes 156 = .ok (.ireturn, 1) := by decide +kernel
theorem dX12_isDigit_0 : decode cX12_isDigit 0 = .ok (.iload_n 1, 1) := by decide +kernel
theorem dX12_isDigit_1 : decode cX12_isDigit 1 = .ok (.aload_n 0, 1) := by decide +kernel
theorem dX12_isDigit_2 : decode cX12_isDigit 2 = .ok (.getfield 235, 3) := by decide +kernel
theorem dX12_isDigit_5 : decode cX12_isDigit 5 = .ok (.if_icmp .ge 23, 3) := by decide +kernel
theorem dX12_isDigit_8 : decode cX12_isDigit 8 = .ok (.aload_n 0, 1) := by decide +kernel
theorem dX12_isDigit_9 : decode cX12_isDigit 9 = .ok (.getfield 22, 3) := by decide +kernel
theorem dX12_isDigit_12 : decode cX12_isDigit 12 = .ok (.iload_n 1, 1) := by decide +kernel
theorem dX12_isDigit_13 : decode cX12_isDigit 13 = .ok (.iaload, 1) := by decide +kernel
theorem dX12_isDigit_14 : decode cX12_isDigit 14 = .ok (.bipush 48, 2) := by decide +kernel
theorem dX12_isDigit_16 : decode cX12_isDigit 16 = .ok (.bipush 57, 2) := by decide +kernel
theorem dX12_isDigit_18 : decode cX12_isDigit 18 = .ok (.invokestatic 35, 3) := by decide +kernel
theorem dX12_isDigit_21 : decode cX12_isDigit 21 = .ok (.ifCond .eq 7, 3) := by decide +kernel
theorem dX12_isDigit_24 : decode cX12_isDigit 24 = .ok (.iconst 1, 1) := by decide +kernel
theorem dX12_isDigit_25 : decode cX12_isDigit 25 = .ok (.goto 4, 3) := by decide +kernel
theorem dX12_isDigit_28 : decode cX12_isDigit 28 = .ok (.iconst 0, 1) := by decide +kernel
theorem dX12_isDigit_29 : decode cX12_isDigit 29 = .ok (.ireturn, 1) := by decide +kernel
theorem dX12_argument_0 : decode cX12_argument 0 = .ok (.aload_n 0, 1) := by decide +kernel
theorem dX12_argument_1 : decode cX12_argument 1 = .ok (.getfield 268, 3) := by decide +kernel
theorem dX12_argument_4 : decode cX12_argument 4 = .ok (.aload_n 0, 1) := by decide +kernel
theorem dX12_argument_5 : decode cX12_argument 5 = .ok (.getfield 235, 3) := by decide +kernel
theorem dX12_argument_8 : decode cX12_argument 8 = .ok (.if_icmp .ge 30, 3) := by decide +kernel
theorem dX12_argument_11 : decode cX12_argument 11 = .ok (.aload_n 0, 1) := by decide +kernel
theorem dX12_argument_12 : decode cX12_argument 12 = .ok (.getfield 22, 3) := by decide +kernel
theorem dX12_argument_15 : decode cX12_argument 15 = .ok (.aload_n 0, 1) := by decide +kernel
theorem dX12_argument_16 : decode cX12_argument 16 = .ok (.getfield 268, 3) := by decide +kernel
theorem dX12_argument_19 : decode cX12_argument 19 = .ok (.iaload, 1) := by decide +kernel
theorem dX12_argument_20 : decode cX12_argument 20 = .ok (.bipush 32, 2) := by decide +kernel
theorem dX12_argument_22 : decode cX12_argument 22 = .ok (.if_icmp .ne 16, 3) := by decide +kernel
theorem dX12_argument_25 : decode cX12_argument 25 = .ok (.aload_n 0, 1) := by decide +kernel
theorem dX12_argument_26 : decode cX12_argument 26 = .ok (.aload_n 0, 1) := by decide +kernel
theorem dX12_argument_27 : decode cX12_argument 27 = .ok (.getfield 268, 3) := by decide +kernel
theorem dX12_argument_30 : decode cX12_argument 30 = .ok (.iconst 1, 1) := by decide +kernel
theorem dX12_argument_31 : decode cX12_argument 31 = .ok (.iadd, 1) := by decide +kernel
theorem dX12_argument_32 : decode cX12_argument 32 = .ok (.invokevirtual 271, 3) := by decide +kernel
theorem dX12_argument_35 : decode cX12_argument 35 = .ok (.ifCond .ne 5, 3) := by decide +kernel
theorem dX12_argument_38 : decode cX12_argument 38 = .ok (.iconst (-1), 1) := by decide +kernel
theorem dX12_argument_39 : decode cX12_argument 39 = .ok (.ireturn, 1) := by decide +kernel
theorem dX12_argument_40 : decode cX12_argument 40 = .ok (.aload_n 0, 1) := by decide +kernel
theorem dX12_argument_41 : decode cX12_argument 41 = .ok (.getfield 22, 3) := by decide +kernel
theorem dX12_argument_44 : decode cX12_argument 44 = .ok (.aload_n 0, 1) := by decide +kernel
theorem dX12_argument_45 : decode cX12_argument 45 = .ok (.getfield 268, 3) := by decide +kernel
theorem dX12_argument_48 : decode cX12_argument 48 = .ok (.iconst 1, 1) := by decide +kernel
theorem dX12_argument_49 : decode cX12_argument 49 = .ok (.iadd, 1) := by decide +kernel
theorem dX12_argument_50 : decode cX12_argument 50 = .ok (.iaload, 1) := by decide +kernel
theorem dX12_argument_51 : decode cX12_argument 51 = .ok (.bipush 48, 2) := by decide +kernel
theorem dX12_argument_53 : decode cX12_argument 53 = .ok (.isub, 1) := by decide +kernel
theorem dX12_argument_54 : decode cX12_argument 54 = .ok (.istore_n 2, 1) := by decide +kernel
theorem dX12_argument_55 : decode cX12_argument 55 = .ok (.aload_n 0, 1) := by decide +kernel
theorem dX12_argument_56 : decode cX12_argument 56 = .ok (.dup, 1) := by decide +kernel
theorem dX12_argument_57 : decode cX12_argument 57 = .ok (.getfield 268, 3) := by decide +kernel
theorem dX12_argument_60 : decode cX12_argument 60 = .ok (.iconst 2, 1) := by decide +kernel
theorem dX12_argument_61 : decode cX12_argument 61 = .ok (.iadd, 1) := by decide +kernel
theorem dX12_argument_62 : decode cX12_argument 62 = .ok (.putfield 268, 3) := by decide +kernel
theorem dX12_argument_65 : decode cX12_argument 65 = .ok (.iload_n 1, 1) := by decide +kernel
theorem dX12_argument_66 : decode cX12_argument 66 = .ok (.iconst 2, 1) := by decide +kernel
theorem dX12_argument_67 : decode cX12_argument 67 = .ok (.if_icmp .ne 46, 3) := by decide +kernel
theorem dX12_argument_70 : decode cX12_argument 70 = .ok (.iload_n 2, 1) := by decide +kernel
theorem dX12_argument_71 : decode cX12_argument 71 = .ok (.ifCond .le 42, 3) := by decide +kernel
theorem dX12_argument_74 : decode cX12_argument 74 = .ok (.aload_n 0, 1) := by decide +kernel
theorem dX12_argument_75 : decode cX12_argument 75 = .ok (.aload_n 0, 1) := by decide +kernel
theorem dX12_argument_76 : decode cX12_argument 76 = .ok (.getfield 268, 3) := by decide +kernel
theorem dX12_argument_79 : decode cX12_argument 79 = .ok (.invokevirtual 271, 3) := by decide +kernel
theorem dX12_argument_82 : decode cX12_argument 82 = .ok (.ifCond .eq 31, 3) := by decide +kernel
theorem dX12_argument_85 : decode cX12_argument 85 = .ok (.bipush 10, 2) := by decide +kernel
theorem dX12_argument_87 : decode cX12_argument 87 = .ok (.iload_n 2, 1) := by decide +kernel
theorem dX12_argument_88 : decode cX12_argument 88 = .ok (.imul, 1) := by decide +kernel
theorem dX12_argument_89 : decode cX12_argument 89 = .ok (.aload_n 0, 1) := by decide +kernel
theorem dX12_argument_90 : decode cX12_argument 90 = .ok (.getfield 22, 3) := by decide +kernel
theorem dX12_argument_93 : decode cX12_argument 93 = .ok (.aload_n 0, 1) := by decide +kernel
theorem dX12_argument_94 : decode cX12_argument 94 = .ok (.getfield 268, 3) := by decide +kernel
theorem dX12_argument_97 : decode cX12_argument 97 = .ok (.iaload, 1) := by decide +kernel
theorem dX12_argument_98 : decode cX12_argument 98 = .ok (.iadd, 1) := by decide +kernel
theorem dX12_argument_99 : decode cX12_argument 99 = .ok (.bipush 48, 2) := by decide +kernel
theorem dX12_argument_101 : decode cX12_argument 101 = .ok (.isub, 1) := by decide +kernel
theorem dX12_argument_102 : decode cX12_argument 102 = .ok (.istore_n 2, 1) := by decide +kernel
theorem dX12_argument_103 : decode cX12_argument 103 = .ok (.aload_n 0, 1) := by decide +kernel
theorem dX12_argument_104 : decode cX12_argument 104 = .ok (.dup, 1) := by decide +kernel
theorem dX12_argument_105 : decode cX12_argument 105 = .ok (.getfield 268, 3) := by decide +kernel
theorem dX12_argument_108 : decode cX12_argument 108 = .ok (.iconst 1, 1) := by decide +kernel
theorem dX12_argument_109 : decode cX12_argument 109 = .ok (.iadd, 1) := by decide +kernel
theorem dX12_argument_110 : decode cX12_argument 110 = .ok (.putfield 268, 3) := by decide +kernel
theorem dX12_argument_113 : decode cX12_argument 113 = .ok (.iload_n 1, 1) := by decide +kernel
theorem dX12_argument_114 : decode cX12_argument 114 = .ok (.ifCond .ne 8, 3) := by decide +kernel
theorem dX12_argument_117 : decode cX12_argument 117 = .ok (.iload_n 2, 1) := by decide +kernel
theorem dX12_argument_118 : decode cX12_argument 118 = .ok (.iconst 5, 1) := by decide +kernel
theorem dX12_argument_119 : decode cX12_argument 119 = .ok (.if_icmp .gt 14, 3) := by decide +kernel
theorem dX12_argument_122 : decode cX12_argument 122 = .ok (.iload_n 1, 1) := by decide +kernel
theorem dX12_argument_123 : decode cX12_argument 123 = .ok (.iconst 1, 1) := by decide +kernel
theorem dX12_argument_124 : decode cX12_argument 124 = .ok (.if_icmp .ne 13, 3) := by decide +kernel
theorem dX12_argument_127 : decode cX12_argument 127 = .ok (.iload_n 2, 1) := by decide +kernel
theorem dX12_argument_128 : decode cX12_argument 128 = .ok (.bipush 7, 2) := by decide +kernel
theorem dX12_argument_130 : decode cX12_argument 130 = .ok (.if_icmp .le 7, 3) := by decide +kernel
theorem dX12_argument_133 : decode cX12_argument 133 = .ok (.iconst (-1), 1) := by decide +kernel
theorem dX12_argument_134 : decode cX12_argument 134 = .ok (.goto 4, 3) := by decide +kernel
theorem dX12_argument_137 : decode cX12_argument 137 = .ok (.iload_n 2, 1) := by decide +kernel
theorem dX12_argument_138 : decode cX12_argument 138 = .ok (.ireturn, 1) := by decide +kernel
theorem dX12_sortOf_0 : decode cX12_sortOf 0 = .ok (.iload_n 1, 1) := by decide +kernel
theorem dX12_sortOf_1 : decode cX12_sortOf 1 = .ok (.ifCond .ne 25, 3) := by decide +kernel
theorem dX12_sortOf_4 : decode cX12_sortOf 4 = .ok (.iload_n 0, 1) := by decide +kernel
theorem dX12_sortOf_5 : decode cX12_sortOf 5 = .ok (.bipush 8, 2) := by decide +kernel
theorem dX12_sortOf_7 : decode cX12_sortOf 7 = .ok (.if_icmp .ne 7, 3) := by decide +kernel
theorem dX12_sortOf_10 : decode cX12_sortOf 10 = .ok (.iconst 1, 1) := by decide +kernel
theorem dX12_sortOf_11 : decode cX12_sortOf 11 = .ok (.goto 14, 3) := by decide +kernel
theorem dX12_sortOf_14 : decode cX12_sortOf 14 = .ok (.iload_n 0, 1) := by decide +kernel
theorem dX12_sortOf_15 : decode cX12_sortOf 15 = .ok (.bipush 9, 2) := by decide +kernel
theorem dX12_sortOf_17 : decode cX12_sortOf 17 = .ok (.if_icmp .ne 7, 3) := by decide +kernel
theorem dX12_sortOf_20 : decode cX12_sortOf 20 = .ok (.iconst 2, 1) := by decide +kernel
theorem dX12_sortOf_21 : decode cX12_sortOf 21 = .ok (.goto 4, 3) := by decide +kernel
theorem dX12_sortOf_24 : decode cX12_sortOf 24 = .ok (.iconst 0, 1) := by decide +kernel
theorem dX12_sortOf_25 : decode cX12_sortOf 25 = .ok (.ireturn, 1) := by decide +kernel
theorem dX12_sortOf_26 : decode cX12_sortOf 26 = .ok (.iload_n 1, 1) := by decide +kernel
theorem dX12_sortOf_27 : decode cX12_sortOf 27 = .ok (.iconst 1, 1) := by decide +kernel
theorem dX12_sortOf_28 : decode cX12_sortOf 28 = .ok (.if_icmp .ne 14, 3) := by decide +kernel
theorem dX12_sortOf_31 : decode cX12_sortOf 31 = .ok (.iload_n 0, 1) := by decide +kernel
theorem dX12_sortOf_32 : decode cX12_sortOf 32 = .ok (.iconst 4, 1) := by decide +kernel
theorem dX12_sortOf_33 : decode cX12_sortOf 33 = .ok (.if_icmp .gt 7, 3) := by decide +kernel
theorem dX12_sortOf_36 : decode cX12_sortOf 36 = .ok (.iconst 1, 1) := by decide +kernel
theorem dX12_sortOf_37 : decode cX12_sortOf 37 = .ok (.goto 4, 3) := by decide +kernel
theorem dX12_sortOf_40 : decode cX12_sortOf 40 = .ok (.iconst (-1), 1) := by decide +kernel
theorem dX12_sortOf_41 : decode cX12_sortOf 41 = .ok (.ireturn, 1) := by decide +kernel
theorem dX12_sortOf_42 : decode cX12_sortOf 42 = .ok (.iload_n 0, 1) := by decide +kernel
theorem dX12_sortOf_43 : decode cX12_sortOf 43 = .ok (.iconst 2, 1) := by decide +kernel
theorem dX12_sortOf_44 : decode cX12_sortOf 44 = .ok (.if_icmp .ne 7, 3) := by decide +kernel
theorem dX12_sortOf_47 : decode cX12_sortOf 47 = .ok (.iconst 2, 1) := by decide +kernel
theorem dX12_sortOf_48 : decode cX12_sortOf 48 = .ok (.goto 4, 3) := by decide +kernel
theorem dX12_sortOf_51 : decode cX12_sortOf 51 = .ok (.iconst (-1), 1) := by decide +kernel
theorem dX12_sortOf_52 : decode cX12_sortOf 52 = .ok (.ireturn, 1) := by decide +kernel
theorem dX12_readsItem_0 : decode cX12_readsItem 0 = .ok (.iconst (-1), 1) := by decide +kernel
theorem dX12_readsItem_1 : decode cX12_readsItem 1 = .ok (.istore_n 1, 1) := by decide +kernel
theorem dX12_readsItem_2 : decode cX12_readsItem 2 = .ok (.iconst 0, 1) := by decide +kernel
theorem dX12_readsItem_3 : decode cX12_readsItem 3 = .ok (.istore_n 2, 1) := by decide +kernel
theorem dX12_readsItem_4 : decode cX12_readsItem 4 = .ok (.iload_n 2, 1) := by decide +kernel
theorem dX12_readsItem_5 : decode cX12_readsItem 5 = .ok (.bipush 9, 2) := by decide +kernel
theorem dX12_readsItem_7 : decode cX12_readsItem 7 = .ok (.if_icmp .gt 27, 3) := by decide +kernel
theorem dX12_readsItem_10 : decode cX12_readsItem 10 = .ok (.iload_n 1, 1) := by decide +kernel
theorem dX12_readsItem_11 : decode cX12_readsItem 11 = .ok (.ifCond .ge 23, 3) := by decide +kernel
theorem dX12_readsItem_14 : decode cX12_readsItem 14 = .ok (.aload_n 0, 1) := by decide +kernel
theorem dX12_readsItem_15 : decode cX12_readsItem 15 = .ok (.iload_n 2, 1) := by decide +kernel
theorem dX12_readsItem_16 : decode cX12_readsItem 16 = .ok (.invokevirtual 274, 3) := by decide +kernel
theorem dX12_readsItem_19 : decode cX12_readsItem 19 = .ok (.ifCond .eq 7, 3) := by decide +kernel
theorem dX12_readsItem_22 : decode cX12_readsItem 22 = .ok (.iload_n 2, 1) := by decide +kernel
theorem dX12_readsItem_23 : decode cX12_readsItem 23 = .ok (.goto 4, 3) := by decide +kernel
theorem dX12_readsItem_26 : decode cX12_readsItem 26 = .ok (.iconst (-1), 1) := by decide +kernel
theorem dX12_readsItem_27 : decode cX12_readsItem 27 = .ok (.istore_n 1, 1) := by decide +kernel
theorem dX12_readsItem_28 : decode cX12_readsItem 28 = .ok (.iinc 2 1, 3) := by decide +kernel
theorem dX12_readsItem_31 : decode cX12_readsItem 31 = .ok (.goto (-27), 3) := by decide +kernel
theorem dX12_readsItem_34 : decode cX12_readsItem 34 = .ok (.iload_n 1, 1) := by decide +kernel
theorem dX12_readsItem_35 : decode cX12_readsItem 35 = .ok (.ifCond .ge 5, 3) := by decide +kernel
theorem dX12_readsItem_38 : decode cX12_readsItem 38 = .ok (.iconst 0, 1) := by decide +kernel
theorem dX12_readsItem_39 : decode cX12_readsItem 39 = .ok (.ireturn, 1) := by decide +kernel
theorem dX12_readsItem_40 : decode cX12_readsItem 40 = .ok (.aload_n 0, 1) := by decide +kernel
theorem dX12_readsItem_41 : decode cX12_readsItem 41 = .ok (.getfield 28, 3) := by decide +kernel
theorem dX12_readsItem_44 : decode cX12_readsItem 44 = .ok (.iconst 4, 1) := by decide +kernel
theorem dX12_readsItem_45 : decode cX12_readsItem 45 = .ok (.aload_n 0, 1) := by decide +kernel
theorem dX12_readsItem_46 : decode cX12_readsItem 46 = .ok (.getfield 277, 3) := by decide +kernel
theorem dX12_readsItem_49 : decode cX12_readsItem 49 = .ok (.imul, 1) := by decide +kernel
theorem dX12_readsItem_50 : decode cX12_readsItem 50 = .ok (.iload_n 1, 1) := by decide +kernel
theorem dX12_readsItem_51 : decode cX12_readsItem 51 = .ok (.iastore, 1) := by decide +kernel
theorem dX12_readsItem_52 : decode cX12_readsItem 52 = .ok (.iconst 0, 1) := by decide +kernel
theorem dX12_readsItem_53 : decode cX12_readsItem 53 = .ok (.istore_n 2, 1) := by decide +kernel
theorem dX12_readsItem_54 : decode cX12_readsItem 54 = .ok (.iload_n 2, 1) := by decide +kernel
theorem dX12_readsItem_55 : decode cX12_readsItem 55 = .ok (.iconst 3, 1) := by decide +kernel
theorem dX12_readsItem_56 : decode cX12_readsItem 56 = .ok (.if_icmp .ge 54, 3) := by decide +kernel
theorem dX12_readsItem_59 : decode cX12_readsItem 59 = .ok (.iload_n 1, 1) := by decide +kernel
theorem dX12_readsItem_60 : decode cX12_readsItem 60 = .ok (.iload_n 2, 1) := by decide +kernel
theorem dX12_readsItem_61 : decode cX12_readsItem 61 = .ok (.invokestatic 280, 3) := by decide +kernel
theorem dX12_readsItem_64 : decode cX12_readsItem 64 = .ok (.istore_n 3, 1) := by decide +kernel
theorem dX12_readsItem_65 : decode cX12_readsItem 65 = .ok (.iload_n 3, 1) := by decide +kernel
theorem dX12_readsItem_66 : decode cX12_readsItem 66 = .ok (.ifCond .ge 7, 3) := by decide +kernel
theorem dX12_readsItem_69 : decode cX12_readsItem 69 = .ok (.iconst 0, 1) := by decide +kernel
theorem dX12_readsItem_70 : decode cX12_readsItem 70 = .ok (.goto 8, 3) := by decide +kernel
theorem dX12_readsItem_73 : decode cX12_readsItem 73 = .ok (.aload_n 0, 1) := by decide +kernel
theorem dX12_readsItem_74 : decode cX12_readsItem 74 = .ok (.iload_n 3, 1) := by decide +kernel
theorem dX12_readsItem_75 : decode cX12_readsItem 75 = .ok (.invokevirtual 283, 3) := by decide +kernel
theorem dX12_readsItem_78 : decode cX12_readsItem 78 = .ok (.istore 4, 2) := by decide +kernel
theorem dX12_readsItem_80 : decode cX12_readsItem 80 = .ok (.iload 4, 2) := by decide +kernel
theorem dX12_readsItem_82 : decode cX12_readsItem 82 = .ok (.ifCond .ge 5, 3) := by decide +kernel
theorem dX12_readsItem_85 : decode cX12_readsItem 85 = .ok (.iconst 0, 1) := by decide +kernel
theorem dX12_readsItem_86 : decode cX12_readsItem 86 = .ok (.ireturn, 1) := by decide +kernel
theorem dX12_readsItem_87 : decode cX12_readsItem 87 = .ok (.aload_n 0, 1) := by decide +kernel
theorem dX12_readsItem_88 : decode cX12_readsItem 88 = .ok (.getfield 28, 3) := by decide +kernel
theorem dX12_readsItem_91 : decode cX12_readsItem 91 = .ok (.iconst 4, 1) := by decide +kernel
theorem dX12_readsItem_92 : decode cX12_readsItem 92 = .ok (.aload_n 0, 1) := by decide +kernel
theorem dX12_readsItem_93 : decode cX12_readsItem 93 = .ok (.getfield 277, 3) := by decide +kernel
theorem dX12_readsItem_96 : decode cX12_readsItem 96 = .ok (.imul, 1) := by decide +kernel
theorem dX12_readsItem_97 : decode cX12_readsItem 97 = .ok (.iconst 1, 1) := by decide +kernel
theorem dX12_readsItem_98 : decode cX12_readsItem 98 = .ok (.iadd, 1) := by decide +kernel
theorem dX12_readsItem_99 : decode cX12_readsItem 99 = .ok (.iload_n 2, 1) := by decide +kernel
theorem dX12_readsItem_100 : decode cX12_readsItem 100 = .ok (.iadd, 1) := by decide +kernel
theorem dX12_readsItem_101 : decode cX12_readsItem 101 = .ok (.iload 4, 2) := by decide +kernel
theorem dX12_readsItem_103 : decode cX12_readsItem 103 = .ok (.iastore, 1) := by decide +kernel
theorem dX12_readsItem_104 : decode cX12_readsItem 104 = .ok (.iinc 2 1, 3) := by decide +kernel
theorem dX12_readsItem_107 : decode cX12_readsItem 107 = .ok (.goto (-53), 3) := by decide +kernel
theorem dX12_readsItem_110 : decode cX12_readsItem 110 = .ok (.aload_n 0, 1) := by decide +kernel
theorem dX12_readsItem_111 : decode cX12_readsItem 111 = .ok (.getfield 268, 3) := by decide +kernel
theorem dX12_readsItem_114 : decode cX12_readsItem 114 = .ok (.aload_n 0, 1) := by decide +kernel
theorem dX12_readsItem_115 : decode cX12_readsItem 115 = .ok (.getfield 235, 3) := by decide +kernel
theorem dX12_readsItem_118 : decode cX12_readsItem 118 = .ok (.if_icmp .ge 21, 3) := by decide +kernel
theorem dX12_readsItem_121 : decode cX12_readsItem 121 = .ok (.aload_n 0, 1) := by decide +kernel
theorem dX12_readsItem_122 : decode cX12_readsItem 122 = .ok (.getfield 22, 3) := by decide +kernel
theorem dX12_readsItem_125 : decode cX12_readsItem 125 = .ok (.aload_n 0, 1) := by decide +kernel
theorem dX12_readsItem_126 : decode cX12_readsItem 126 = .ok (.getfield 268, 3) := by decide +kernel
theorem dX12_readsItem_129 : decode cX12_readsItem 129 = .ok (.iaload, 1) := by decide +kernel
theorem dX12_readsItem_130 : decode cX12_readsItem 130 = .ok (.bipush 59, 2) := by decide +kernel
theorem dX12_readsItem_132 : decode cX12_readsItem 132 = .ok (.if_icmp .ne 7, 3) := by decide +kernel
theorem dX12_readsItem_135 : decode cX12_readsItem 135 = .ok (.iconst 1, 1) := by decide +kernel
theorem dX12_readsItem_136 : decode cX12_readsItem 136 = .ok (.goto 4, 3) := by decide +kernel
theorem dX12_readsItem_139 : decode cX12_readsItem 139 = .ok (.iconst 0, 1) := by decide +kernel
theorem dX12_readsItem_140 : decode cX12_readsItem 140 = .ok (.istore_n 2, 1) := by decide +kernel
theorem dX12_readsItem_141 : decode cX12_readsItem 141 = .ok (.aload_n 0, 1) := by decide +kernel
theorem dX12_readsItem_142 : decode cX12_readsItem 142 = .ok (.dup, 1) := by decide +kernel
theorem dX12_readsItem_143 : decode cX12_readsItem 143 = .ok (.getfield 268, 3) := by decide +kernel
theorem dX12_readsItem_146 : decode cX12_readsItem 146 = .ok (.iload_n 2, 1) := by decide +kernel
theorem dX12_readsItem_147 : decode cX12_readsItem 147 = .ok (.ifCond .eq 7, 3) := by decide +kernel
theorem dX12_readsItem_150 : decode cX12_readsItem 150 = .ok (.iconst 1, 1) := by decide +kernel
theorem dX12_readsItem_151 : decode cX12_readsItem 151 = .ok (.goto 4, 3) := by decide +kernel
theorem dX12_readsItem_154 : decode cX12_readsItem 154 = .ok (.iconst 0, 1) := by decide +kernel
theorem dX12_readsItem_155 : decode cX12_readsItem 155 = .ok (.iadd, 1) := by decide +kernel
theorem dX12_readsItem_156 : decode cX12_readsItem 156 = .ok (.putfield 268, 3) := by decide +kernel
theorem dX12_readsItem_159 : decode cX12_readsItem 159 = .ok (.aload_n 0, 1) := by decide +kernel
theorem dX12_readsItem_160 : decode cX12_readsItem 160 = .ok (.dup, 1) := by decide +kernel
theorem dX12_readsItem_161 : decode cX12_readsItem 161 = .ok (.getfield 277, 3) := by decide +kernel
theorem dX12_readsItem_164 : decode cX12_readsItem 164 = .ok (.iload_n 2, 1) := by decide +kernel
theorem dX12_readsItem_165 : decode cX12_readsItem 165 = .ok (.ifCond .eq 7, 3) := by decide +kernel
theorem dX12_readsItem_168 : decode cX12_readsItem 168 = .ok (.iconst 1, 1) := by decide +kernel
theorem dX12_readsItem_169 : decode cX12_readsItem 169 = .ok (.goto 4, 3) := by decide +kernel
theorem dX12_readsItem_172 : decode cX12_readsItem 172 = .ok (.iconst 0, 1) := by decide +kernel
theorem dX12_readsItem_173 : decode cX12_readsItem 173 = .ok (.iadd, 1) := by decide +kernel
theorem dX12_readsItem_174 : decode cX12_readsItem 174 = .ok (.putfield 277, 3) := by decide +kernel
theorem dX12_readsItem_177 : decode cX12_readsItem 177 = .ok (.iload_n 2, 1) := by decide +kernel
theorem dX12_readsItem_178 : decode cX12_readsItem 178 = .ok (.ireturn, 1) := by decide +kernel
theorem dX12_fault_0 : decode cX12_fault 0 = .ok (.aload_n 0, 1) := by decide +kernel
theorem dX12_fault_1 : decode cX12_fault 1 = .ok (.iconst 0, 1) := by decide +kernel
theorem dX12_fault_2 : decode cX12_fault 2 = .ok (.putfield 268, 3) := by decide +kernel
theorem dX12_fault_5 : decode cX12_fault 5 = .ok (.aload_n 0, 1) := by decide +kernel
theorem dX12_fault_6 : decode cX12_fault 6 = .ok (.iconst 0, 1) := by decide +kernel
theorem dX12_fault_7 : decode cX12_fault 7 = .ok (.putfield 277, 3) := by decide +kernel
theorem dX12_fault_10 : decode cX12_fault 10 = .ok (.aload_n 0, 1) := by decide +kernel
theorem dX12_fault_11 : decode cX12_fault 11 = .ok (.getfield 268, 3) := by decide +kernel
theorem dX12_fault_14 : decode cX12_fault 14 = .ok (.aload_n 0, 1) := by decide +kernel
theorem dX12_fault_15 : decode cX12_fault 15 = .ok (.getfield 235, 3) := by decide +kernel
theorem dX12_fault_18 : decode cX12_fault 18 = .ok (.if_icmp .ge 15, 3) := by decide +kernel
theorem dX12_fault_21 : decode cX12_fault 21 = .ok (.aload_n 0, 1) := by decide +kernel
theorem dX12_fault_22 : decode cX12_fault 22 = .ok (.invokevirtual 286, 3) := by decide +kernel
theorem dX12_fault_25 : decode cX12_fault 25 = .ok (.ifCond .ne (-15), 3) := by decide +kernel
theorem dX12_fault_28 : decode cX12_fault 28 = .ok (.aload_n 0, 1) := by decide +kernel
theorem dX12_fault_29 : decode cX12_fault 29 = .ok (.getfield 277, 3) := by decide +kernel
theorem dX12_fault_32 : decode cX12_fault 32 = .ok (.ireturn, 1) := by decide +kernel
theorem dX12_fault_33 : decode cX12_fault 33 = .ok (.bipush (-8), 2) := by decide +kernel
theorem dX12_fault_35 : decode cX12_fault 35 = .ok (.ireturn, 1) := by decide +kernel
theorem dX12_run_0 : decode cX12_run 0 = .ok (.aload_n 0, 1) := by decide +kernel
theorem dX12_run_1 : decode cX12_run 1 = .ok (.invokevirtual 290, 3) := by decide +kernel
theorem dX12_run_4 : decode cX12_run 4 = .ok (.bipush (-8), 2) := by decide +kernel
theorem dX12_run_6 : decode cX12_run 6 = .ok (.if_icmp .eq 6, 3) := by decide +kernel
theorem dX12_run_9 : decode cX12_run 9 = .ok (.bipush (-7), 2) := by decide +kernel
theorem dX12_run_11 : decode cX12_run 11 = .ok (.ireturn, 1) := by decide +kernel
theorem dX12_run_12 : decode cX12_run 12 = .ok (.iconst 0, 1) := by decide +kernel
theorem dX12_run_13 : decode cX12_run 13 = .ok (.istore_n 1, 1) := by decide +kernel
theorem dX12_run_14 : decode cX12_run 14 = .ok (.iconst 0, 1) := by decide +kernel
theorem dX12_run_15 : decode cX12_run 15 = .ok (.istore_n 2, 1) := by decide +kernel
theorem dX12_run_16 : decode cX12_run 16 = .ok (.iload_n 2, 1) := by decide +kernel
theorem dX12_run_17 : decode cX12_run 17 = .ok (.aload_n 0, 1) := by decide +kernel
theorem dX12_run_18 : decode cX12_run 18 = .ok (.getfield 277, 3) := by decide +kernel
theorem dX12_run_21 : decode cX12_run 21 = .ok (.if_icmp .ge 70, 3) := by decide +kernel
theorem dX12_run_24 : decode cX12_run 24 = .ok (.aload_n 0, 1) := by decide +kernel
theorem dX12_run_25 : decode cX12_run 25 = .ok (.aload_n 0, 1) := by decide +kernel
theorem dX12_run_26 : decode cX12_run 26 = .ok (.getfield 28, 3) := by decide +kernel
theorem dX12_run_29 : decode cX12_run 29 = .ok (.iconst 4, 1) := by decide +kernel
theorem dX12_run_30 : decode cX12_run 30 = .ok (.iload_n 2, 1) := by decide +kernel
theorem dX12_run_31 : decode cX12_run 31 = .ok (.imul, 1) := by decide +kernel
theorem dX12_run_32 : decode cX12_run 32 = .ok (.iaload, 1) := by decide +kernel
theorem dX12_run_33 : decode cX12_run 33 = .ok (.aload_n 0, 1) := by decide +kernel
theorem dX12_run_34 : decode cX12_run 34 = .ok (.getfield 28, 3) := by decide +kernel
theorem dX12_run_37 : decode cX12_run 37 = .ok (.iconst 4, 1) := by decide +kernel
theorem dX12_run_38 : decode cX12_run 38 = .ok (.iload_n 2, 1) := by decide +kernel
theorem dX12_run_39 : decode cX12_run 39 = .ok (.imul, 1) := by decide +kernel
theorem dX12_run_40 : decode cX12_run 40 = .ok (.iconst 1, 1) := by decide +kernel
theorem dX12_run_41 : decode cX12_run 41 = .ok (.iadd, 1) := by decide +kernel
theorem dX12_run_42 : decode cX12_run 42 = .ok (.iaload, 1) := by decide +kernel
theorem dX12_run_43 : decode cX12_run 43 = .ok (.aload_n 0, 1) := by decide +kernel
theorem dX12_run_44 : decode cX12_run 44 = .ok (.getfield 28, 3) := by decide +kernel
theorem dX12_run_47 : decode cX12_run 47 = .ok (.iconst 4, 1) := by decide +kernel
theorem dX12_run_48 : decode cX12_run 48 = .ok (.iload_n 2, 1) := by decide +kernel
theorem dX12_run_49 : decode cX12_run 49 = .ok (.imul, 1) := by decide +kernel
theorem dX12_run_50 : decode cX12_run 50 = .ok (.iconst 2, 1) := by decide +kernel
theorem dX12_run_51 : decode cX12_run 51 = .ok (.iadd, 1) := by decide +kernel
theorem dX12_run_52 : decode cX12_run 52 = .ok (.iaload, 1) := by decide +kernel
theorem dX12_run_53 : decode cX12_run 53 = .ok (.aload_n 0, 1) := by decide +kernel
theorem dX12_run_54 : decode cX12_run 54 = .ok (.getfield 28, 3) := by decide +kernel
theorem dX12_run_57 : decode cX12_run 57 = .ok (.iconst 4, 1) := by decide +kernel
theorem dX12_run_58 : decode cX12_run 58 = .ok (.iload_n 2, 1) := by decide +kernel
theorem dX12_run_59 : decode cX12_run 59 = .ok (.imul, 1) := by decide +kernel
theorem dX12_run_60 : decode cX12_run 60 = .ok (.iconst 3, 1) := by decide +kernel
theorem dX12_run_61 : decode cX12_run 61 = .ok (.iadd, 1) := by decide +kernel
theorem dX12_run_62 : decode cX12_run 62 = .ok (.iaload, 1) := by decide +kernel
theorem dX12_run_63 : decode cX12_run 63 = .ok (.invokevirtual 225, 3) := by decide +kernel
theorem dX12_run_66 : decode cX12_run 66 = .ok (.istore_n 3, 1) := by decide +kernel
theorem dX12_run_67 : decode cX12_run 67 = .ok (.iload_n 1, 1) := by decide +kernel
theorem dX12_run_68 : decode cX12_run 68 = .ok (.iload_n 3, 1) := by decide +kernel
theorem dX12_run_69 : decode cX12_run 69 = .ok (.bipush (-7), 2) := by decide +kernel
theorem dX12_run_71 : decode cX12_run 71 = .ok (.iconst (-1), 1) := by decide +kernel
theorem dX12_run_72 : decode cX12_run 72 = .ok (.invokestatic 35, 3) := by decide +kernel
theorem dX12_run_75 : decode cX12_run 75 = .ok (.ifCond .eq 7, 3) := by decide +kernel
theorem dX12_run_78 : decode cX12_run 78 = .ok (.iconst 1, 1) := by decide +kernel
theorem dX12_run_79 : decode cX12_run 79 = .ok (.goto 4, 3) := by decide +kernel
theorem dX12_run_82 : decode cX12_run 82 = .ok (.iconst 0, 1) := by decide +kernel
theorem dX12_run_83 : decode cX12_run 83 = .ok (.iadd, 1) := by decide +kernel
theorem dX12_run_84 : decode cX12_run 84 = .ok (.istore_n 1, 1) := by decide +kernel
theorem dX12_run_85 : decode cX12_run 85 = .ok (.iinc 2 1, 3) := by decide +kernel
theorem dX12_run_88 : decode cX12_run 88 = .ok (.goto (-72), 3) := by decide +kernel
theorem dX12_run_91 : decode cX12_run 91 = .ok (.iload_n 1, 1) := by decide +kernel
theorem dX12_run_92 : decode cX12_run 92 = .ok (.ireturn, 1) := by decide +kernel
theorem dX12_save_0 : decode cX12_save 0 = .ok (.iload_n 1, 1) := by decide +kernel
theorem dX12_save_1 : decode cX12_save 1 = .ok (.iconst 0, 1) := by decide +kernel
theorem dX12_save_2 : decode cX12_save 2 = .ok (.iconst 1, 1) := by decide +kernel
theorem dX12_save_3 : decode cX12_save 3 = .ok (.invokestatic 35, 3) := by decide +kernel
theorem dX12_save_6 : decode cX12_save 6 = .ok (.ifCond .ne 6, 3) := by decide +kernel
theorem dX12_save_9 : decode cX12_save 9 = .ok (.bipush (-3), 2) := by decide +kernel
theorem dX12_save_11 : decode cX12_save 11 = .ok (.ireturn, 1) := by decide +kernel
theorem dX12_save_12 : decode cX12_save 12 = .ok (.iconst 0, 1) := by decide +kernel
theorem dX12_save_13 : decode cX12_save 13 = .ok (.istore_n 2, 1) := by decide +kernel
theorem dX12_save_14 : decode cX12_save 14 = .ok (.iload_n 2, 1) := by decide +kernel
theorem dX12_save_15 : decode cX12_save 15 = .ok (.sipush 482, 3) := by decide +kernel
theorem dX12_save_18 : decode cX12_save 18 = .ok (.if_icmp .ge 27, 3) := by decide +kernel
theorem dX12_save_21 : decode cX12_save 21 = .ok (.aload_n 0, 1) := by decide +kernel
theorem dX12_save_22 : decode cX12_save 22 = .ok (.getfield 19, 3) := by decide +kernel
theorem dX12_save_25 : decode cX12_save 25 = .ok (.sipush 482, 3) := by decide +kernel
theorem dX12_save_28 : decode cX12_save 28 = .ok (.iload_n 1, 1) := by decide +kernel
theorem dX12_save_29 : decode cX12_save 29 = .ok (.imul, 1) := by decide +kernel
theorem dX12_save_30 : decode cX12_save 30 = .ok (.iload_n 2, 1) := by decide +kernel
theorem dX12_save_31 : decode cX12_save 31 = .ok (.iadd, 1) := by decide +kernel
theorem dX12_save_32 : decode cX12_save 32 = .ok (.aload_n 0, 1) := by decide +kernel
theorem dX12_save_33 : decode cX12_save 33 = .ok (.getfield 7, 3) := by decide +kernel
theorem dX12_save_36 : decode cX12_save 36 = .ok (.iload_n 2, 1) := by decide +kernel
theorem dX12_save_37 : decode cX12_save 37 = .ok (.iaload, 1) := by decide +kernel
theorem dX12_save_38 : decode cX12_save 38 = .ok (.iastore, 1) := by decide +kernel
theorem dX12_save_39 : decode cX12_save 39 = .ok (.iinc 2 1, 3) := by decide +kernel
theorem dX12_save_42 : decode cX12_save 42 = .ok (.goto (-28), 3) := by decide +kernel
theorem dX12_save_45 : decode cX12_save 45 = .ok (.aload_n 0, 1) := by decide +kernel
theorem dX12_save_46 : decode cX12_save 46 = .ok (.dup, 1) := by decide +kernel
theorem dX12_save_47 : decode cX12_save 47 = .ok (.getfield 293, 3) := by decide +kernel
theorem dX12_save_50 : decode cX12_save 50 = .ok (.iconst 1, 1) := by decide +kernel
theorem dX12_save_51 : decode cX12_save 51 = .ok (.iload_n 1, 1) := by decide +kernel
theorem dX12_save_52 : decode cX12_save 52 = .ok (.ishl, 1) := by decide +kernel
theorem dX12_save_53 : decode cX12_save 53 = .ok (.ior, 1) := by decide +kernel
theorem dX12_save_54 : decode cX12_save 54 = .ok (.putfield 293, 3) := by decide +kernel
theorem dX12_save_57 : decode cX12_save 57 = .ok (.aload_n 0, 1) := by decide +kernel
theorem dX12_save_58 : decode cX12_save 58 = .ok (.getfield 7, 3) := by decide +kernel
theorem dX12_save_61 : decode cX12_save 61 = .ok (.bipush 9, 2) := by decide +kernel
theorem dX12_save_63 : decode cX12_save 63 = .ok (.iaload, 1) := by decide +kernel
theorem dX12_save_64 : decode cX12_save 64 = .ok (.ireturn, 1) := by decide +kernel
theorem dX12_restore_0 : decode cX12_restore 0 = .ok (.iload_n 1, 1) := by decide +kernel
theorem dX12_restore_1 : decode cX12_restore 1 = .ok (.iconst 0, 1) := by decide +kernel
theorem dX12_restore_2 : decode cX12_restore 2 = .ok (.iconst 1, 1) := by decide +kernel
theorem dX12_restore_3 : decode cX12_restore 3 = .ok (.invokestatic 35, 3) := by decide +kernel
theorem dX12_restore_6 : decode cX12_restore 6 = .ok (.ifCond .ne 6, 3) := by decide +kernel
theorem dX12_restore_9 : decode cX12_restore 9 = .ok (.bipush (-3), 2) := by decide +kernel
theorem dX12_restore_11 : decode cX12_restore 11 = .ok (.ireturn, 1) := by decide +kernel
theorem dX12_restore_12 : decode cX12_restore 12 = .ok (.aload_n 0, 1) := by decide +kernel
theorem dX12_restore_13 : decode cX12_restore 13 = .ok (.getfield 293, 3) := by decide +kernel
theorem dX12_restore_16 : decode cX12_restore 16 = .ok (.iload_n 1, 1) := by decide +kernel
theorem dX12_restore_17 : decode cX12_restore 17 = .ok (.ishr, 1) := by decide +kernel
theorem dX12_restore_18 : decode cX12_restore 18 = .ok (.iconst 1, 1) := by decide +kernel
theorem dX12_restore_19 : decode cX12_restore 19 = .ok (.iand, 1) := by decide +kernel
theorem dX12_restore_20 : decode cX12_restore 20 = .ok (.ifCond .ne 6, 3) := by decide +kernel
theorem dX12_restore_23 : decode cX12_restore 23 = .ok (.bipush (-7), 2) := by decide +kernel
theorem dX12_restore_25 : decode cX12_restore 25 = .ok (.ireturn, 1) := by decide +kernel
theorem dX12_restore_26 : decode cX12_restore 26 = .ok (.iconst 0, 1) := by decide +kernel
theorem dX12_restore_27 : decode cX12_restore 27 = .ok (.istore_n 2, 1) := by decide +kernel
theorem dX12_restore_28 : decode cX12_restore 28 = .ok (.iload_n 2, 1) := by decide +kernel
theorem dX12_restore_29 : decode cX12_restore 29 = .ok (.sipush 482, 3) := by decide +kernel
theorem dX12_restore_32 : decode cX12_restore 32 = .ok (.if_icmp .ge 27, 3) := by decide +kernel
theorem dX12_restore_35 : decode cX12_restore 35 = .ok (.aload_n 0, 1) := by decide +kernel
theorem dX12_restore_36 : decode cX12_restore 36 = .ok (.getfield 7, 3) := by decide +kernel
theorem dX12_restore_39 : decode cX12_restore 39 = .ok (.iload_n 2, 1) := by decide +kernel
theorem dX12_restore_40 : decode cX12_restore 40 = .ok (.aload_n 0, 1) := by decide +kernel
theorem dX12_restore_41 : decode cX12_restore 41 = .ok (.getfield 19, 3) := by decide +kernel
theorem dX12_restore_44 : decode cX12_restore 44 = .ok (.sipush 482, 3) := by decide +kernel
theorem dX12_restore_47 : decode cX12_restore 47 = .ok (.iload_n 1, 1) := by decide +kernel
theorem dX12_restore_48 : decode cX12_restore 48 = .ok (.imul, 1) := by decide +kernel
theorem dX12_restore_49 : decode cX12_restore 49 = .ok (.iload_n 2, 1) := by decide +kernel
theorem dX12_restore_50 : decode cX12_restore 50 = .ok (.iadd, 1) := by decide +kernel
theorem dX12_restore_51 : decode cX12_restore 51 = .ok (.iaload, 1) := by decide +kernel
theorem dX12_restore_52 : decode cX12_restore 52 = .ok (.iastore, 1) := by decide +kernel
theorem dX12_restore_53 : decode cX12_restore 53 = .ok (.iinc 2 1, 3) := by decide +kernel
theorem dX12_restore_56 : decode cX12_restore 56 = .ok (.goto (-28), 3) := by decide +kernel
theorem dX12_restore_59 : decode cX12_restore 59 = .ok (.aload_n 0, 1) := by decide +kernel
theorem dX12_restore_60 : decode cX12_restore 60 = .ok (.getfield 7, 3) := by decide +kernel
theorem dX12_restore_63 : decode cX12_restore 63 = .ok (.bipush 9, 2) := by decide +kernel
theorem dX12_restore_65 : decode cX12_restore 65 = .ok (.iaload, 1) := by decide +kernel
theorem dX12_restore_66 : decode cX12_restore 66 = .ok (.ireturn, 1) := by decide +kernel
end
section
theorem dL_law_0 : decode cL_law 0 = .ok (.new 7, 3) := by decide +kernel
theorem dL_law_3 : decode cL_law 3 = .ok (.dup, 1) := by decide +kernel
theorem dL_law_4 : decode cL_law 4 = .ok (.invokespecial 9, 3) := by decide +kernel
theorem dL_law_7 : decode cL_law 7 = .ok (.astore_n 1, 1) := by decide +kernel
theorem dL_law_8 : decode cL_law 8 = .ok (.new 10, 3) := by decide +kernel
theorem dL_law_11 : decode cL_law 11 = .ok (.dup, 1) := by decide +kernel
theorem dL_law_12 : decode cL_law 12 = .ok (.invokespecial 12, 3) := by decide +kernel
theorem dL_law_15 : decode cL_law 15 = .ok (.astore_n 2, 1) := by decide +kernel
theorem dL_law_16 : decode cL_law 16 = .ok (.iconst 0, 1) := by decide +kernel
theorem dL_law_17 : decode cL_law 17 = .ok (.istore_n 3, 1) := by decide +kernel
theorem dL_law_18 : decode cL_law 18 = .ok (.iload_n 3, 1) := by decide +kernel
theorem dL_law_19 : decode cL_law 19 = .ok (.aload_n 0, 1) := by decide +kernel
theorem dL_law_20 : decode cL_law 20 = .ok (.arraylength, 1) := by decide +kernel
theorem dL_law_21 : decode cL_law 21 = .ok (.iconst 4, 1) := by decide +kernel
theorem dL_law_22 : decode cL_law 22 = .ok (.isub, 1) := by decide +kernel
theorem dL_law_23 : decode cL_law 23 = .ok (.if_icmp .gt 1141, 3) := by decide +kernel
theorem dL_law_26 : decode cL_law 26 = .ok (.aload_n 0, 1) := by decide +kernel
theorem dL_law_27 : decode cL_law 27 = .ok (.iload_n 3, 1) := by decide +kernel
theorem dL_law_28 : decode cL_law 28 = .ok (.iaload, 1) := by decide +kernel
theorem dL_law_29 : decode cL_law 29 = .ok (.bipush 63, 2) := by decide +kernel
theorem dL_law_31 : decode cL_law 31 = .ok (.iand, 1) := by decide +kernel
theorem dL_law_32 : decode cL_law 32 = .ok (.tableswitch 1126 0 39 #[176, 199, 232, 255, 288, 321, 364, 397, 430, 453, 476, 499, 522, 545, 558, 581, 604, 627, 650, 663, 686, 709, 732, 755, 788, 821, 854, 887, 900, 913, 936, 949, 962, 995, 1018, 1041, 1054, 1067, 1080, 1103], 176) := by decide +kernel
theorem dL_law_208 : decode cL_law 208 = .ok (.aload_n 1, 1) := by decide +kernel
theorem dL_law_209 : decode cL_law 209 = .ok (.aload_n 0, 1) := by decide +kernel
theorem dL_law_210 : decode cL_law 210 = .ok (.iload_n 3, 1) := by decide +kernel
theorem dL_law_211 : decode cL_law 211 = .ok (.iconst 1, 1) := by decide +kernel
theorem dL_law_212 : decode cL_law 212 = .ok (.iadd, 1) := by decide +kernel
theorem dL_law_213 : decode cL_law 213 = .ok (.iaload, 1) := by decide +kernel
theorem dL_law_214 : decode cL_law 214 = .ok (.invokevirtual 13, 3) := by decide +kernel
theorem dL_law_217 : decode cL_law 217 = .ok (.aload_n 2, 1) := by decide +kernel
theorem dL_law_218 : decode cL_law 218 = .ok (.aload_n 0, 1) := by decide +kernel
theorem dL_law_219 : decode cL_law 219 = .ok (.iload_n 3, 1) := by decide +kernel
theorem dL_law_220 : decode cL_law 220 = .ok (.iconst 1, 1) := by decide +kernel
theorem dL_law_221 : decode cL_law 221 = .ok (.iadd, 1) := by decide +kernel
theorem dL_law_222 : decode cL_law 222 = .ok (.iaload, 1) := by decide +kernel
theorem dL_law_223 : decode cL_law 223 = .ok (.invokevirtual 17, 3) := by decide +kernel
theorem dL_law_226 : decode cL_law 226 = .ok (.if_icmp .eq 932, 3) := by decide +kernel
theorem dL_law_229 : decode cL_law 229 = .ok (.iconst 0, 1) := by decide +kernel
theorem dL_law_230 : decode cL_law 230 = .ok (.ireturn, 1) := by decide +kernel
theorem dL_law_231 : decode cL_law 231 = .ok (.aload_n 1, 1) := by decide +kernel
theorem dL_law_232 : decode cL_law 232 = .ok (.aload_n 0, 1) := by decide +kernel
theorem dL_law_233 : decode cL_law 233 = .ok (.iload_n 3, 1) := by decide +kernel
theorem dL_law_234 : decode cL_law 234 = .ok (.iconst 1, 1) := by decide +kernel
theorem dL_law_235 : decode cL_law 235 = .ok (.iadd, 1) := by decide +kernel
theorem dL_law_236 : decode cL_law 236 = .ok (.iaload, 1) := by decide +kernel
theorem dL_law_237 : decode cL_law 237 = .ok (.aload_n 0, 1) := by decide +kernel
theorem dL_law_238 : decode cL_law 238 = .ok (.iload_n 3, 1) := by decide +kernel
theorem dL_law_239 : decode cL_law 239 = .ok (.iconst 2, 1) := by decide +kernel
theorem dL_law_240 : decode cL_law 240 = .ok (.iadd, 1) := by decide +kernel
theorem dL_law_241 : decode cL_law 241 = .ok (.iaload, 1) := by decide +kernel
theorem dL_law_242 : decode cL_law 242 = .ok (.invokevirtual 18, 3) := by decide +kernel
theorem dL_law_245 : decode cL_law 245 = .ok (.aload_n 2, 1) := by decide +kernel
theorem dL_law_246 : decode cL_law 246 = .ok (.aload_n 0, 1) := by decide +kernel
theorem dL_law_247 : decode cL_law 247 = .ok (.iload_n 3, 1) := by decide +kernel
theorem dL_law_248 : decode cL_law 248 = .ok (.iconst 1, 1) := by decide +kernel
theorem dL_law_249 : decode cL_law 249 = .ok (.iadd, 1) := by decide +kernel
theorem dL_law_250 : decode cL_law 250 = .ok (.iaload, 1) := by decide +kernel
theorem dL_law_251 : decode cL_law 251 = .ok (.aload_n 0, 1) := by decide +kernel
theorem dL_law_252 : decode cL_law 252 = .ok (.iload_n 3, 1) := by decide +kernel
theorem dL_law_253 : decode cL_law 253 = .ok (.iconst 2, 1) := by decide +kernel
theorem dL_law_254 : decode cL_law 254 = .ok (.iadd, 1) := by decide +kernel
theorem dL_law_255 : decode cL_law 255 = .ok (.iaload, 1) := by decide +kernel
theorem dL_law_256 : decode cL_law 256 = .ok (.invokevirtual 22, 3) := by decide +kernel
theorem dL_law_259 : decode cL_law 259 = .ok (.if_icmp .eq 899, 3) := by decide +kernel
theorem dL_law_262 : decode cL_law 262 = .ok (.iconst 0, 1) := by decide +kernel
theorem dL_law_263 : decode cL_law 263 = .ok (.ireturn, 1) := by decide +kernel
theorem dL_law_264 : decode cL_law 264 = .ok (.aload_n 1, 1) := by decide +kernel
theorem dL_law_265 : decode cL_law 265 = .ok (.aload_n 0, 1) := by decide +kernel
theorem dL_law_266 : decode cL_law 266 = .ok (.iload_n 3, 1) := by decide +kernel
theorem dL_law_267 : decode cL_law 267 = .ok (.iconst 1, 1) := by decide +kernel
theorem dL_law_268 : decode cL_law 268 = .ok (.iadd, 1) := by decide +kernel
theorem dL_law_269 : decode cL_law 269 = .ok (.iaload, 1) := by decide +kernel
theorem dL_law_270 : decode cL_law 270 = .ok (.invokevirtual 23, 3) := by decide +kernel
theorem dL_law_273 : decode cL_law 273 = .ok (.aload_n 2, 1) := by decide +kernel
theorem dL_law_274 : decode cL_law 274 = .ok (.aload_n 0, 1) := by decide +kernel
theorem dL_law_275 : decode cL_law 275 = .ok (.iload_n 3, 1) := by decide +kernel
theorem dL_law_276 : decode cL_law 276 = .ok (.iconst 1, 1) := by decide +kernel
theorem dL_law_277 : decode cL_law 277 = .ok (.iadd, 1) := by decide +kernel
theorem dL_law_278 : decode cL_law 278 = .ok (.iaload, 1) := by decide +kernel
theorem dL_law_279 : decode cL_law 279 = .ok (.invokevirtual 26, 3) := by decide +kernel
theorem dL_law_282 : decode cL_law 282 = .ok (.if_icmp .eq 876, 3) := by decide +kernel
theorem dL_law_285 : decode cL_law 285 = .ok (.iconst 0, 1) := by decide +kernel
theorem dL_law_286 : decode cL_law 286 = .ok (.ireturn, 1) := by decide +kernel
theorem dL_law_287 : decode cL_law 287 = .ok (.aload_n 1, 1) := by decide +kernel
theorem dL_law_288 : decode cL_law 288 = .ok (.aload_n 0, 1) := by decide +kernel
theorem dL_law_289 : decode cL_law 289 = .ok (.iload_n 3, 1) := by decide +kernel
theorem dL_law_290 : decode cL_law 290 = .ok (.iconst 1, 1) := by decide +kernel
theorem dL_law_291 : decode cL_law 291 = .ok (.iadd, 1) := by decide +kernel
theorem dL_law_292 : decode cL_law 292 = .ok (.iaload, 1) := by decide +kernel
theorem dL_law_293 : decode cL_law 293 = .ok (.aload_n 0, 1) := by decide +kernel
theorem dL_law_294 : decode cL_law 294 = .ok (.iload_n 3, 1) := by decide +kernel
theorem dL_law_295 : decode cL_law 295 = .ok (.iconst 2, 1) := by decide +kernel
theorem dL_law_296 : decode cL_law 296 = .ok (.iadd, 1) := by decide +kernel
theorem dL_law_297 : decode cL_law 297 = .ok (.iaload, 1) := by decide +kernel
theorem dL_law_298 : decode cL_law 298 = .ok (.invokevirtual 27, 3) := by decide +kernel
theorem dL_law_301 : decode cL_law 301 = .ok (.aload_n 2, 1) := by decide +kernel
theorem dL_law_302 : decode cL_law 302 = .ok (.aload_n 0, 1) := by decide +kernel
theorem dL_law_303 : decode cL_law 303 = .ok (.iload_n 3, 1) := by decide +kernel
theorem dL_law_304 : decode cL_law 304 = .ok (.iconst 1, 1) := by decide +kernel
theorem dL_law_305 : decode cL_law 305 = .ok (.iadd, 1) := by decide +kernel
theorem dL_law_306 : decode cL_law 306 = .ok (.iaload, 1) := by decide +kernel
theorem dL_law_307 : decode cL_law 307 = .ok (.aload_n 0, 1) := by decide +kernel
theorem dL_law_308 : decode cL_law 308 = .ok (.iload_n 3, 1) := by decide +kernel
theorem dL_law_309 : decode cL_law 309 = .ok (.iconst 2, 1) := by decide +kernel
theorem dL_law_310 : decode cL_law 310 = .ok (.iadd, 1) := by decide +kernel
theorem dL_law_311 : decode cL_law 311 = .ok (.iaload, 1) := by decide +kernel
theorem dL_law_312 : decode cL_law 312 = .ok (.invokevirtual 30, 3) := by decide +kernel
theorem dL_law_315 : decode cL_law 315 = .ok (.if_icmp .eq 843, 3) := by decide +kernel
theorem dL_law_318 : decode cL_law 318 = .ok (.iconst 0, 1) := by decide +kernel
theorem dL_law_319 : decode cL_law 319 = .ok (.ireturn, 1) := by decide +kernel
theorem dL_law_320 : decode cL_law 320 = .ok (.aload_n 1, 1) := by decide +kernel
theorem dL_law_321 : decode cL_law 321 = .ok (.aload_n 0, 1) := by decide +kernel
theorem dL_law_322 : decode cL_law 322 = .ok (.iload_n 3, 1) := by decide +kernel
theorem dL_law_323 : decode cL_law 323 = .ok (.iconst 1, 1) := by decide +kernel
theorem dL_law_324 : decode cL_law 324 = .ok (.iadd, 1) := by decide +kernel
theorem dL_law_325 : decode cL_law 325 = .ok (.iaload, 1) := by decide +kernel
theorem dL_law_326 : decode cL_law 326 = .ok (.aload_n 0, 1) := by decide +kernel
theorem dL_law_327 : decode cL_law 327 = .ok (.iload_n 3, 1) := by decide +kernel
theorem dL_law_328 : decode cL_law 328 = .ok (.iconst 2, 1) := by decide +kernel
theorem dL_law_329 : decode cL_law 329 = .ok (.iadd, 1) := by decide +kernel
theorem dL_law_330 : decode cL_law 330 = .ok (.iaload, 1) := by decide +kernel
theorem dL_law_331 : decode cL_law 331 = .ok (.invokevirtual 31, 3) := by decide +kernel
theorem dL_law_334 : decode cL_law 334 = .ok (.aload_n 2, 1) := by decide +kernel
theorem dL_law_335 : decode cL_law 335 = .ok (.aload_n 0, 1) := by decide +kernel
theorem dL_law_336 : decode cL_law 336 = .ok (.iload_n 3, 1) := by decide +kernel
theorem dL_law_337 : decode cL_law 337 = .ok (.iconst 1, 1) := by decide +kernel
theorem dL_law_338 : decode cL_law 338 = .ok (.iadd, 1) := by decide +kernel
theorem dL_law_339 : decode cL_law 339 = .ok (.iaload, 1) := by decide +kernel
theorem dL_law_340 : decode cL_law 340 = .ok (.aload_n 0, 1) := by decide +kernel
theorem dL_law_341 : decode cL_law 341 = .ok (.iload_n 3, 1) := by decide +kernel
theorem dL_law_342 : decode cL_law 342 = .ok (.iconst 2, 1) := by decide +kernel
theorem dL_law_343 : decode cL_law 343 = .ok (.iadd, 1) := by decide +kernel
theorem dL_law_344 : decode cL_law 344 = .ok (.iaload, 1) := by decide +kernel
theorem dL_law_345 : decode cL_law 345 = .ok (.invokevirtual 34, 3) := by decide +kernel
theorem dL_law_348 : decode cL_law 348 = .ok (.if_icmp .eq 810, 3) := by decide +kernel
theorem dL_law_351 : decode cL_law 351 = .ok (.iconst 0, 1) := by decide +kernel
theorem dL_law_352 : decode cL_law 352 = .ok (.ireturn, 1) := by decide +kernel
theorem dL_law_353 : decode cL_law 353 = .ok (.aload_n 1, 1) := by decide +kernel
theorem dL_law_354 : decode cL_law 354 = .ok (.aload_n 0, 1) := by decide +kernel
theorem dL_law_355 : decode cL_law 355 = .ok (.iload_n 3, 1) := by decide +kernel
theorem dL_law_356 : decode cL_law 356 = .ok (.iconst 1, 1) := by decide +kernel
theorem dL_law_357 : decode cL_law 357 = .ok (.iadd, 1) := by decide +kernel
theorem dL_law_358 : decode cL_law 358 = .ok (.iaload, 1) := by decide +kernel
theorem dL_law_359 : decode cL_law 359 = .ok (.aload_n 0, 1) := by decide +kernel
theorem dL_law_360 : decode cL_law 360 = .ok (.iload_n 3, 1) := by decide +kernel
theorem dL_law_361 : decode cL_law 361 = .ok (.iconst 2, 1) := by decide +kernel
theorem dL_law_362 : decode cL_law 362 = .ok (.iadd, 1) := by decide +kernel
theorem dL_law_363 : decode cL_law 363 = .ok (.iaload, 1) := by decide +kernel
theorem dL_law_364 : decode cL_law 364 = .ok (.aload_n 0, 1) := by decide +kernel
theorem dL_law_365 : decode cL_law 365 = .ok (.iload_n 3, 1) := by decide +kernel
theorem dL_law_366 : decode cL_law 366 = .ok (.iconst 3, 1) := by decide +kernel
theorem dL_law_367 : decode cL_law 367 = .ok (.iadd, 1) := by decide +kernel
theorem dL_law_368 : decode cL_law 368 = .ok (.iaload, 1) := by decide +kernel
theorem dL_law_369 : decode cL_law 369 = .ok (.invokevirtual 35, 3) := by decide +kernel
theorem dL_law_372 : decode cL_law 372 = .ok (.aload_n 2, 1) := by decide +kernel
theorem dL_law_373 : decode cL_law 373 = .ok (.aload_n 0, 1) := by decide +kernel
theorem dL_law_374 : decode cL_law 374 = .ok (.iload_n 3, 1) := by decide +kernel
theorem dL_law_375 : decode cL_law 375 = .ok (.iconst 1, 1) := by decide +kernel
theorem dL_law_376 : decode cL_law 376 = .ok (.iadd, 1) := by decide +kernel
theorem dL_law_377 : decode cL_law 377 = .ok (.iaload, 1) := by decide +kernel
theorem dL_law_378 : decode cL_law 378 = .ok (.aload_n 0, 1) := by decide +kernel
theorem dL_law_379 : decode cL_law 379 = .ok (.iload_n 3, 1) := by decide +kernel
theorem dL_law_380 : decode cL_law 380 = .ok (.iconst 2, 1) := by decide +kernel
theorem dL_law_381 : decode cL_law 381 = .ok (.iadd, 1) := by decide +kernel
theorem dL_law_382 : decode cL_law 382 = .ok (.iaload, 1) := by decide +kernel
theorem dL_law_383 : decode cL_law 383 = .ok (.aload_n 0, 1) := by decide +kernel
theorem dL_law_384 : decode cL_law 384 = .ok (.iload_n 3, 1) := by decide +kernel
theorem dL_law_385 : decode cL_law 385 = .ok (.iconst 3, 1) := by decide +kernel
theorem dL_law_386 : decode cL_law 386 = .ok (.iadd, 1) := by decide +kernel
theorem dL_law_387 : decode cL_law 387 = .ok (.iaload, 1) := by decide +kernel
theorem dL_law_388 : decode cL_law 388 = .ok (.invokevirtual 39, 3) := by decide +kernel
theorem dL_law_391 : decode cL_law 391 = .ok (.if_icmp .eq 767, 3) := by decide +kernel
theorem dL_law_394 : decode cL_law 394 = .ok (.iconst 0, 1) := by decide +kernel
theorem dL_law_395 : decode cL_law 395 = .ok (.ireturn, 1) := by decide +kernel
theorem dL_law_396 : decode cL_law 396 = .ok (.aload_n 1, 1) := by decide +kernel
theorem dL_law_397 : decode cL_law 397 = .ok (.aload_n 0, 1) := by decide +kernel
theorem dL_law_398 : decode cL_law 398 = .ok (.iload_n 3, 1) := by decide +kernel
theorem dL_law_399 : decode cL_law 399 = .ok (.iconst 1, 1) := by decide +kernel
theorem dL_law_400 : decode cL_law 400 = .ok (.iadd, 1) := by decide +kernel
theorem dL_law_401 : decode cL_law 401 = .ok (.iaload, 1) := by decide +kernel
theorem dL_law_402 : decode cL_law 402 = .ok (.aload_n 0, 1) := by decide +kernel
theorem dL_law_403 : decode cL_law 403 = .ok (.iload_n 3, 1) := by decide +kernel
theorem dL_law_404 : decode cL_law 404 = .ok (.iconst 2, 1) := by decide +kernel
theorem dL_law_405 : decode cL_law 405 = .ok (.iadd, 1) := by decide +kernel
theorem dL_law_406 : decode cL_law 406 = .ok (.iaload, 1) := by decide +kernel
theorem dL_law_407 : decode cL_law 407 = .ok (.invokevirtual 40, 3) := by decide +kernel
theorem dL_law_410 : decode cL_law 410 = .ok (.aload_n 2, 1) := by decide +kernel
theorem dL_law_411 : decode cL_law 411 = .ok (.aload_n 0, 1) := by decide +kernel
theorem dL_law_412 : decode cL_law 412 = .ok (.iload_n 3, 1) := by decide +kernel
theorem dL_law_413 : decode cL_law 413 = .ok (.iconst 1, 1) := by decide +kernel
theorem dL_law_414 : decode cL_law 414 = .ok (.iadd, 1) := by decide +kernel
theorem dL_law_415 : decode cL_law 415 = .ok (.iaload, 1) := by decide +kernel
theorem dL_law_416 : decode cL_law 416 = .ok (.aload_n 0, 1) := by decide +kernel
theorem dL_law_417 : decode cL_law 417 = .ok (.iload_n 3, 1) := by decide +kernel
theorem dL_law_418 : decode cL_law 418 = .ok (.iconst 2, 1) := by decide +kernel
theorem dL_law_419 : decode cL_law 419 = .ok (.iadd, 1) := by decide +kernel
theorem dL_law_420 : decode cL_law 420 = .ok (.iaload, 1) := by decide +kernel
theorem dL_law_421 : decode cL_law 421 = .ok (.invokevirtual 43, 3) := by decide +kernel
theorem dL_law_424 : decode cL_law 424 = .ok (.if_icmp .eq 734, 3) := by decide +kernel
theorem dL_law_427 : decode cL_law 427 = .ok (.iconst 0, 1) := by decide +kernel
theorem dL_law_428 : decode cL_law 428 = .ok (.ireturn, 1) := by decide +kernel
theorem dL_law_429 : decode cL_law 429 = .ok (.aload_n 1, 1) := by decide +kernel
theorem dL_law_430 : decode cL_law 430 = .ok (.aload_n 0, 1) := by decide +kernel
theorem dL_law_431 : decode cL_law 431 = .ok (.iload_n 3, 1) := by decide +kernel
theorem dL_law_432 : decode cL_law 432 = .ok (.iconst 1, 1) := by decide +kernel
theorem dL_law_433 : decode cL_law 433 = .ok (.iadd, 1) := by decide +kernel
theorem dL_law_434 : decode cL_law 434 = .ok (.iaload, 1) := by decide +kernel
theorem dL_law_435 : decode cL_law 435 = .ok (.aload_n 0, 1) := by decide +kernel
theorem dL_law_436 : decode cL_law 436 = .ok (.iload_n 3, 1) := by decide +kernel
theorem dL_law_437 : decode cL_law 437 = .ok (.iconst 2, 1) := by decide +kernel
theorem dL_law_438 : decode cL_law 438 = .ok (.iadd, 1) := by decide +kernel
theorem dL_law_439 : decode cL_law 439 = .ok (.iaload, 1) := by decide +kernel
theorem dL_law_440 : decode cL_law 440 = .ok (.invokevirtual 44, 3) := by decide +kernel
theorem dL_law_443 : decode cL_law 443 = .ok (.aload_n 2, 1) := by decide +kernel
theorem dL_law_444 : decode cL_law 444 = .ok (.aload_n 0, 1) := by decide +kernel
theorem dL_law_445 : decode cL_law 445 = .ok (.iload_n 3, 1) := by decide +kernel
theorem dL_law_446 : decode cL_law 446 = .ok (.iconst 1, 1) := by decide +kernel
theorem dL_law_447 : decode cL_law 447 = .ok (.iadd, 1) := by decide +kernel
theorem dL_law_448 : decode cL_law 448 = .ok (.iaload, 1) := by decide +kernel
theorem dL_law_449 : decode cL_law 449 = .ok (.aload_n 0, 1) := by decide +kernel
theorem dL_law_450 : decode cL_law 450 = .ok (.iload_n 3, 1) := by decide +kernel
theorem dL_law_451 : decode cL_law 451 = .ok (.iconst 2, 1) := by decide +kernel
theorem dL_law_452 : decode cL_law 452 = .ok (.iadd, 1) := by decide +kernel
theorem dL_law_453 : decode cL_law 453 = .ok (.iaload, 1) := by decide +kernel
theorem dL_law_454 : decode cL_law 454 = .ok (.invokevirtual 47, 3) := by decide +kernel
theorem dL_law_457 : decode cL_law 457 = .ok (.if_icmp .eq 701, 3) := by decide +kernel
theorem dL_law_460 : decode cL_law 460 = .ok (.iconst 0, 1) := by decide +kernel
theorem dL_law_461 : decode cL_law 461 = .ok (.ireturn, 1) := by decide +kernel
theorem dL_law_462 : decode cL_law 462 = .ok (.aload_n 1, 1) := by decide +kernel
theorem dL_law_463 : decode cL_law 463 = .ok (.aload_n 0, 1) := by decide +kernel
theorem dL_law_464 : decode cL_law 464 = .ok (.iload_n 3, 1) := by decide +kernel
theorem dL_law_465 : decode cL_law 465 = .ok (.iconst 1, 1) := by decide +kernel
theorem dL_law_466 : decode cL_law 466 = .ok (.iadd, 1) := by decide +kernel
theorem dL_law_467 : decode cL_law 467 = .ok (.iaload, 1) := by decide +kernel
theorem dL_law_468 : decode cL_law 468 = .ok (.invokevirtual 48, 3) := by decide +kernel
theorem dL_law_471 : decode cL_law 471 = .ok (.aload_n 2, 1) := by decide +kernel
theorem dL_law_472 : decode cL_law 472 = .ok (.aload_n 0, 1) := by decide +kernel
theorem dL_law_473 : decode cL_law 473 = .ok (.iload_n 3, 1) := by decide +kernel
theorem dL_law_474 : decode cL_law 474 = .ok (.iconst 1, 1) := by decide +kernel
theorem dL_law_475 : decode cL_law 475 = .ok (.iadd, 1) := by decide +kernel
theorem dL_law_476 : decode cL_law 476 = .ok (.iaload, 1) := by decide +kernel
theorem dL_law_477 : decode cL_law 477 = .ok (.invokevirtual 51, 3) := by decide +kernel
theorem dL_law_480 : decode cL_law 480 = .ok (.if_icmp .eq 678, 3) := by decide +kernel
theorem dL_law_483 : decode cL_law 483 = .ok (.iconst 0, 1) := by decide +kernel
theorem dL_law_484 : decode cL_law 484 = .ok (.ireturn, 1) := by decide +kernel
theorem dL_law_485 : decode cL_law 485 = .ok (.aload_n 1, 1) := by decide +kernel
theorem dL_law_486 : decode cL_law 486 = .ok (.aload_n 0, 1) := by decide +kernel
theorem dL_law_487 : decode cL_law 487 = .ok (.iload_n 3, 1) := by decide +kernel
theorem dL_law_488 : decode cL_law 488 = .ok (.iconst 1, 1) := by decide +kernel
theorem dL_law_489 : decode cL_law 489 = .ok (.iadd, 1) := by decide +kernel
theorem dL_law_490 : decode cL_law 490 = .ok (.iaload, 1) := by decide +kernel
theorem dL_law_491 : decode cL_law 491 = .ok (.invokevirtual 52, 3) := by decide +kernel
theorem dL_law_494 : decode cL_law 494 = .ok (.aload_n 2, 1) := by decide +kernel
theorem dL_law_495 : decode cL_law 495 = .ok (.aload_n 0, 1) := by decide +kernel
theorem dL_law_496 : decode cL_law 496 = .ok (.iload_n 3, 1) := by decide +kernel
theorem dL_law_497 : decode cL_law 497 = .ok (.iconst 1, 1) := by decide +kernel
theorem dL_law_498 : decode cL_law 498 = .ok (.iadd, 1) := by decide +kernel
theorem dL_law_499 : decode cL_law 499 = .ok (.iaload, 1) := by decide +kernel
theorem dL_law_500 : decode cL_law 500 = .ok (.invokevirtual 55, 3) := by decide +kernel
theorem dL_law_503 : decode cL_law 503 = .ok (.if_icmp .eq 655, 3) := by decide +kernel
theorem dL_law_506 : decode cL_law 506 = .ok (.iconst 0, 1) := by decide +kernel
theorem dL_law_507 : decode cL_law 507 = .ok (.ireturn, 1) := by decide +kernel
theorem dL_law_508 : decode cL_law 508 = .ok (.aload_n 1, 1) := by decide +kernel
theorem dL_law_509 : decode cL_law 509 = .ok (.aload_n 0, 1) := by decide +kernel
theorem dL_law_510 : decode cL_law 510 = .ok (.iload_n 3, 1) := by decide +kernel
theorem dL_law_511 : decode cL_law 511 = .ok (.iconst 1, 1) := by decide +kernel
theorem dL_law_512 : decode cL_law 512 = .ok (.iadd, 1) := by decide +kernel
theorem dL_law_513 : decode cL_law 513 = .ok (.iaload, 1) := by decide +kernel
theorem dL_law_514 : decode cL_law 514 = .ok (.invokevirtual 56, 3) := by decide +kernel
theorem dL_law_517 : decode cL_law 517 = .ok (.aload_n 2, 1) := by decide +kernel
theorem dL_law_518 : decode cL_law 518 = .ok (.aload_n 0, 1) := by decide +kernel
theorem dL_law_519 : decode cL_law 519 = .ok (.iload_n 3, 1) := by decide +kernel
theorem dL_law_520 : decode cL_law 520 = .ok (.iconst 1, 1) := by decide +kernel
theorem dL_law_521 : decode cL_law 521 = .ok (.iadd, 1) := by decide +kernel
theorem dL_law_522 : decode cL_law 522 = .ok (.iaload, 1) := by decide +kernel
theorem dL_law_523 : decode cL_law 523 = .ok (.invokevirtual 59, 3) := by decide +kernel
theorem dL_law_526 : decode cL_law 526 = .ok (.if_icmp .eq 632, 3) := by decide +kernel
theorem dL_law_529 : decode cL_law 529 = .ok (.iconst 0, 1) := by decide +kernel
theorem dL_law_530 : decode cL_law 530 = .ok (.ireturn, 1) := by decide +kernel
theorem dL_law_531 : decode cL_law 531 = .ok (.aload_n 1, 1) := by decide +kernel
theorem dL_law_532 : decode cL_law 532 = .ok (.aload_n 0, 1) := by decide +kernel
theorem dL_law_533 : decode cL_law 533 = .ok (.iload_n 3, 1) := by decide +kernel
theorem dL_law_534 : decode cL_law 534 = .ok (.iconst 1, 1) := by decide +kernel
theorem dL_law_535 : decode cL_law 535 = .ok (.iadd, 1) := by decide +kernel
theorem dL_law_536 : decode cL_law 536 = .ok (.iaload, 1) := by decide +kernel
theorem dL_law_537 : decode cL_law 537 = .ok (.invokevirtual 60, 3) := by decide +kernel
theorem dL_law_540 : decode cL_law 540 = .ok (.aload_n 2, 1) := by decide +kernel
theorem dL_law_541 : decode cL_law 541 = .ok (.aload_n 0, 1) := by decide +kernel
theorem dL_law_542 : decode cL_law 542 = .ok (.iload_n 3, 1) := by decide +kernel
theorem dL_law_543 : decode cL_law 543 = .ok (.iconst 1, 1) := by decide +kernel
theorem dL_law_544 : decode cL_law 544 = .ok (.iadd, 1) := by decide +kernel
theorem dL_law_545 : decode cL_law 545 = .ok (.iaload, 1) := by decide +kernel
theorem dL_law_546 : decode cL_law 546 = .ok (.invokevirtual 63, 3) := by decide +kernel
theorem dL_law_549 : decode cL_law 549 = .ok (.if_icmp .eq 609, 3) := by decide +kernel
theorem dL_law_552 : decode cL_law 552 = .ok (.iconst 0, 1) := by decide +kernel
theorem dL_law_553 : decode cL_law 553 = .ok (.ireturn, 1) := by decide +kernel
theorem dL_law_554 : decode cL_law 554 = .ok (.aload_n 1, 1) := by decide +kernel
theorem dL_law_555 : decode cL_law 555 = .ok (.aload_n 0, 1) := by decide +kernel
theorem dL_law_556 : decode cL_law 556 = .ok (.iload_n 3, 1) := by decide +kernel
theorem dL_law_557 : decode cL_law 557 = .ok (.iconst 1, 1) := by decide +kernel
theorem dL_law_558 : decode cL_law 558 = .ok (.iadd, 1) := by decide +kernel
theorem dL_law_559 : decode cL_law 559 = .ok (.iaload, 1) := by decide +kernel
theorem dL_law_560 : decode cL_law 560 = .ok (.invokevirtual 64, 3) := by decide +kernel
theorem dL_law_563 : decode cL_law 563 = .ok (.aload_n 2, 1) := by decide +kernel
theorem dL_law_564 : decode cL_law 564 = .ok (.aload_n 0, 1) := by decide +kernel
theorem dL_law_565 : decode cL_law 565 = .ok (.iload_n 3, 1) := by decide +kernel
theorem dL_law_566 : decode cL_law 566 = .ok (.iconst 1, 1) := by decide +kernel
theorem dL_law_567 : decode cL_law 567 = .ok (.iadd, 1) := by decide +kernel
theorem dL_law_568 : decode cL_law 568 = .ok (.iaload, 1) := by decide +kernel
theorem dL_law_569 : decode cL_law 569 = .ok (.invokevirtual 67, 3) := by decide +kernel
theorem dL_law_572 : decode cL_law 572 = .ok (.if_icmp .eq 586, 3) := by decide +kernel
theorem dL_law_575 : decode cL_law 575 = .ok (.iconst 0, 1) := by decide +kernel
theorem dL_law_576 : decode cL_law 576 = .ok (.ireturn, 1) := by decide +kernel
theorem dL_law_577 : decode cL_law 577 = .ok (.aload_n 1, 1) := by decide +kernel
theorem dL_law_578 : decode cL_law 578 = .ok (.invokevirtual 68, 3) := by decide +kernel
theorem dL_law_581 : decode cL_law 581 = .ok (.aload_n 2, 1) := by decide +kernel
theorem dL_law_582 : decode cL_law 582 = .ok (.invokevirtual 72, 3) := by decide +kernel
theorem dL_law_585 : decode cL_law 585 = .ok (.if_icmp .eq 573, 3) := by decide +kernel
theorem dL_law_588 : decode cL_law 588 = .ok (.iconst 0, 1) := by decide +kernel
theorem dL_law_589 : decode cL_law 589 = .ok (.ireturn, 1) := by decide +kernel
theorem dL_law_590 : decode cL_law 590 = .ok (.aload_n 1, 1) := by decide +kernel
theorem dL_law_591 : decode cL_law 591 = .ok (.aload_n 0, 1) := by decide +kernel
theorem dL_law_592 : decode cL_law 592 = .ok (.iload_n 3, 1) := by decide +kernel
theorem dL_law_593 : decode cL_law 593 = .ok (.iconst 1, 1) := by decide +kernel
theorem dL_law_594 : decode cL_law 594 = .ok (.iadd, 1) := by decide +kernel
theorem dL_law_595 : decode cL_law 595 = .ok (.iaload, 1) := by decide +kernel
theorem dL_law_596 : decode cL_law 596 = .ok (.invokevirtual 73, 3) := by decide +kernel
theorem dL_law_599 : decode cL_law 599 = .ok (.aload_n 2, 1) := by decide +kernel
theorem dL_law_600 : decode cL_law 600 = .ok (.aload_n 0, 1) := by decide +kernel
theorem dL_law_601 : decode cL_law 601 = .ok (.iload_n 3, 1) := by decide +kernel
theorem dL_law_602 : decode cL_law 602 = .ok (.iconst 1, 1) := by decide +kernel
theorem dL_law_603 : decode cL_law 603 = .ok (.iadd, 1) := by decide +kernel
theorem dL_law_604 : decode cL_law 604 = .ok (.iaload, 1) := by decide +kernel
theorem dL_law_605 : decode cL_law 605 = .ok (.invokevirtual 76, 3) := by decide +kernel
theorem dL_law_608 : decode cL_law 608 = .ok (.if_icmp .eq 550, 3) := by decide +kernel
theorem dL_law_611 : decode cL_law 611 = .ok (.iconst 0, 1) := by decide +kernel
theorem dL_law_612 : decode cL_law 612 = .ok (.ireturn, 1) := by decide +kernel
theorem dL_law_613 : decode cL_law 613 = .ok (.aload_n 1, 1) := by decide +kernel
theorem dL_law_614 : decode cL_law 614 = .ok (.aload_n 0, 1) := by decide +kernel
theorem dL_law_615 : decode cL_law 615 = .ok (.iload_n 3, 1) := by decide +kernel
theorem dL_law_616 : decode cL_law 616 = .ok (.iconst 1, 1) := by decide +kernel
theorem dL_law_617 : decode cL_law 617 = .ok (.iadd, 1) := by decide +kernel
theorem dL_law_618 : decode cL_law 618 = .ok (.iaload, 1) := by decide +kernel
theorem dL_law_619 : decode cL_law 619 = .ok (.invokevirtual 77, 3) := by decide +kernel
theorem dL_law_622 : decode cL_law 622 = .ok (.aload_n 2, 1) := by decide +kernel
theorem dL_law_623 : decode cL_law 623 = .ok (.aload_n 0, 1) := by decide +kernel
theorem dL_law_624 : decode cL_law 624 = .ok (.iload_n 3, 1) := by decide +kernel
theorem dL_law_625 : decode cL_law 625 = .ok (.iconst 1, 1) := by decide +kernel
theorem dL_law_626 : decode cL_law 626 = .ok (.iadd, 1) := by decide +kernel
theorem dL_law_627 : decode cL_law 627 = .ok (.iaload, 1) := by decide +kernel
theorem dL_law_628 : decode cL_law 628 = .ok (.invokevirtual 80, 3) := by decide +kernel
theorem dL_law_631 : decode cL_law 631 = .ok (.if_icmp .eq 527, 3) := by decide +kernel
theorem dL_law_634 : decode cL_law 634 = .ok (.iconst 0, 1) := by decide +kernel
theorem dL_law_635 : decode cL_law 635 = .ok (.ireturn, 1) := by decide +kernel
theorem dL_law_636 : decode cL_law 636 = .ok (.aload_n 1, 1) := by decide +kernel
theorem dL_law_637 : decode cL_law 637 = .ok (.aload_n 0, 1) := by decide +kernel
theorem dL_law_638 : decode cL_law 638 = .ok (.iload_n 3, 1) := by decide +kernel
theorem dL_law_639 : decode cL_law 639 = .ok (.iconst 1, 1) := by decide +kernel
theorem dL_law_640 : decode cL_law 640 = .ok (.iadd, 1) := by decide +kernel
theorem dL_law_641 : decode cL_law 641 = .ok (.iaload, 1) := by decide +kernel
theorem dL_law_642 : decode cL_law 642 = .ok (.invokevirtual 81, 3) := by decide +kernel
theorem dL_law_645 : decode cL_law 645 = .ok (.aload_n 2, 1) := by decide +kernel
theorem dL_law_646 : decode cL_law 646 = .ok (.aload_n 0, 1) := by decide +kernel
theorem dL_law_647 : decode cL_law 647 = .ok (.iload_n 3, 1) := by decide +kernel
theorem dL_law_648 : decode cL_law 648 = .ok (.iconst 1, 1) := by decide +kernel
theorem dL_law_649 : decode cL_law 649 = .ok (.iadd, 1) := by decide +kernel
theorem dL_law_650 : decode cL_law 650 = .ok (.iaload, 1) := by decide +kernel
theorem dL_law_651 : decode cL_law 651 = .ok (.invokevirtual 84, 3) := by decide +kernel
theorem dL_law_654 : decode cL_law 654 = .ok (.if_icmp .eq 504, 3) := by decide +kernel
theorem dL_law_657 : decode cL_law 657 = .ok (.iconst 0, 1) := by decide +kernel
theorem dL_law_658 : decode cL_law 658 = .ok (.ireturn, 1) := by decide +kernel
theorem dL_law_659 : decode cL_law 659 = .ok (.aload_n 1, 1) := by decide +kernel
theorem dL_law_660 : decode cL_law 660 = .ok (.aload_n 0, 1) := by decide +kernel
theorem dL_law_661 : decode cL_law 661 = .ok (.iload_n 3, 1) := by decide +kernel
theorem dL_law_662 : decode cL_law 662 = .ok (.iconst 1, 1) := by decide +kernel
theorem dL_law_663 : decode cL_law 663 = .ok (.iadd, 1) := by decide +kernel
theorem dL_law_664 : decode cL_law 664 = .ok (.iaload, 1) := by decide +kernel
theorem dL_law_665 : decode cL_law 665 = .ok (.invokevirtual 85, 3) := by decide +kernel
theorem dL_law_668 : decode cL_law 668 = .ok (.aload_n 2, 1) := by decide +kernel
theorem dL_law_669 : decode cL_law 669 = .ok (.aload_n 0, 1) := by decide +kernel
theorem dL_law_670 : decode cL_law 670 = .ok (.iload_n 3, 1) := by decide +kernel
theorem dL_law_671 : decode cL_law 671 = .ok (.iconst 1, 1) := by decide +kernel
theorem dL_law_672 : decode cL_law 672 = .ok (.iadd, 1) := by decide +kernel
theorem dL_law_673 : decode cL_law 673 = .ok (.iaload, 1) := by decide +kernel
theorem dL_law_674 : decode cL_law 674 = .ok (.invokevirtual 88, 3) := by decide +kernel
theorem dL_law_677 : decode cL_law 677 = .ok (.if_icmp .eq 481, 3) := by decide +kernel
theorem dL_law_680 : decode cL_law 680 = .ok (.iconst 0, 1) := by decide +kernel
theorem dL_law_681 : decode cL_law 681 = .ok (.ireturn, 1) := by decide +kernel
theorem dL_law_682 : decode cL_law 682 = .ok (.aload_n 1, 1) := by decide +kernel
theorem dL_law_683 : decode cL_law 683 = .ok (.invokevirtual 89, 3) := by decide +kernel
theorem dL_law_686 : decode cL_law 686 = .ok (.aload_n 2, 1) := by decide +kernel
theorem dL_law_687 : decode cL_law 687 = .ok (.invokevirtual 92, 3) := by decide +kernel
theorem dL_law_690 : decode cL_law 690 = .ok (.if_icmp .eq 468, 3) := by decide +kernel
theorem dL_law_693 : decode cL_law 693 = .ok (.iconst 0, 1) := by decide +kernel
theorem dL_law_694 : decode cL_law 694 = .ok (.ireturn, 1) := by decide +kernel
theorem dL_law_695 : decode cL_law 695 = .ok (.aload_n 1, 1) := by decide +kernel
theorem dL_law_696 : decode cL_law 696 = .ok (.aload_n 0, 1) := by decide +kernel
theorem dL_law_697 : decode cL_law 697 = .ok (.iload_n 3, 1) := by decide +kernel
theorem dL_law_698 : decode cL_law 698 = .ok (.iconst 1, 1) := by decide +kernel
theorem dL_law_699 : decode cL_law 699 = .ok (.iadd, 1) := by decide +kernel
theorem dL_law_700 : decode cL_law 700 = .ok (.iaload, 1) := by decide +kernel
theorem dL_law_701 : decode cL_law 701 = .ok (.invokevirtual 93, 3) := by decide +kernel
theorem dL_law_704 : decode cL_law 704 = .ok (.aload_n 2, 1) := by decide +kernel
theorem dL_law_705 : decode cL_law 705 = .ok (.aload_n 0, 1) := by decide +kernel
theorem dL_law_706 : decode cL_law 706 = .ok (.iload_n 3, 1) := by decide +kernel
theorem dL_law_707 : decode cL_law 707 = .ok (.iconst 1, 1) := by decide +kernel
theorem dL_law_708 : decode cL_law 708 = .ok (.iadd, 1) := by decide +kernel
theorem dL_law_709 : decode cL_law 709 = .ok (.iaload, 1) := by decide +kernel
theorem dL_law_710 : decode cL_law 710 = .ok (.invokevirtual 96, 3) := by decide +kernel
theorem dL_law_713 : decode cL_law 713 = .ok (.if_icmp .eq 445, 3) := by decide +kernel
theorem dL_law_716 : decode cL_law 716 = .ok (.iconst 0, 1) := by decide +kernel
theorem dL_law_717 : decode cL_law 717 = .ok (.ireturn, 1) := by decide +kernel
theorem dL_law_718 : decode cL_law 718 = .ok (.aload_n 1, 1) := by decide +kernel
theorem dL_law_719 : decode cL_law 719 = .ok (.aload_n 0, 1) := by decide +kernel
theorem dL_law_720 : decode cL_law 720 = .ok (.iload_n 3, 1) := by decide +kernel
theorem dL_law_721 : decode cL_law 721 = .ok (.iconst 1, 1) := by decide +kernel
theorem dL_law_722 : decode cL_law 722 = .ok (.iadd, 1) := by decide +kernel
theorem dL_law_723 : decode cL_law 723 = .ok (.iaload, 1) := by decide +kernel
theorem dL_law_724 : decode cL_law 724 = .ok (.invokevirtual 97, 3) := by decide +kernel
theorem dL_law_727 : decode cL_law 727 = .ok (.aload_n 2, 1) := by decide +kernel
theorem dL_law_728 : decode cL_law 728 = .ok (.aload_n 0, 1) := by decide +kernel
theorem dL_law_729 : decode cL_law 729 = .ok (.iload_n 3, 1) := by decide +kernel
theorem dL_law_730 : decode cL_law 730 = .ok (.iconst 1, 1) := by decide +kernel
theorem dL_law_731 : decode cL_law 731 = .ok (.iadd, 1) := by decide +kernel
theorem dL_law_732 : decode cL_law 732 = .ok (.iaload, 1) := by decide +kernel
theorem dL_law_733 : decode cL_law 733 = .ok (.invokevirtual 100, 3) := by decide +kernel
theorem dL_law_736 : decode cL_law 736 = .ok (.if_icmp .eq 422, 3) := by decide +kernel
theorem dL_law_739 : decode cL_law 739 = .ok (.iconst 0, 1) := by decide +kernel
theorem dL_law_740 : decode cL_law 740 = .ok (.ireturn, 1) := by decide +kernel
theorem dL_law_741 : decode cL_law 741 = .ok (.aload_n 1, 1) := by decide +kernel
theorem dL_law_742 : decode cL_law 742 = .ok (.aload_n 0, 1) := by decide +kernel
theorem dL_law_743 : decode cL_law 743 = .ok (.iload_n 3, 1) := by decide +kernel
theorem dL_law_744 : decode cL_law 744 = .ok (.iconst 1, 1) := by decide +kernel
theorem dL_law_745 : decode cL_law 745 = .ok (.iadd, 1) := by decide +kernel
theorem dL_law_746 : decode cL_law 746 = .ok (.iaload, 1) := by decide +kernel
theorem dL_law_747 : decode cL_law 747 = .ok (.invokevirtual 101, 3) := by decide +kernel
theorem dL_law_750 : decode cL_law 750 = .ok (.aload_n 2, 1) := by decide +kernel
theorem dL_law_751 : decode cL_law 751 = .ok (.aload_n 0, 1) := by decide +kernel
theorem dL_law_752 : decode cL_law 752 = .ok (.iload_n 3, 1) := by decide +kernel
theorem dL_law_753 : decode cL_law 753 = .ok (.iconst 1, 1) := by decide +kernel
theorem dL_law_754 : decode cL_law 754 = .ok (.iadd, 1) := by decide +kernel
theorem dL_law_755 : decode cL_law 755 = .ok (.iaload, 1) := by decide +kernel
theorem dL_law_756 : decode cL_law 756 = .ok (.invokevirtual 104, 3) := by decide +kernel
theorem dL_law_759 : decode cL_law 759 = .ok (.if_icmp .eq 399, 3) := by decide +kernel
theorem dL_law_762 : decode cL_law 762 = .ok (.iconst 0, 1) := by decide +kernel
theorem dL_law_763 : decode cL_law 763 = .ok (.ireturn, 1) := by decide +kernel
theorem dL_law_764 : decode cL_law 764 = .ok (.aload_n 1, 1) := by decide +kernel
theorem dL_law_765 : decode cL_law 765 = .ok (.aload_n 0, 1) := by decide +kernel
theorem dL_law_766 : decode cL_law 766 = .ok (.iload_n 3, 1) := by decide +kernel
theorem dL_law_767 : decode cL_law 767 = .ok (.iconst 1, 1) := by decide +kernel
theorem dL_law_768 : decode cL_law 768 = .ok (.iadd, 1) := by decide +kernel
theorem dL_law_769 : decode cL_law 769 = .ok (.iaload, 1) := by decide +kernel
theorem dL_law_770 : decode cL_law 770 = .ok (.invokevirtual 105, 3) := by decide +kernel
theorem dL_law_773 : decode cL_law 773 = .ok (.aload_n 2, 1) := by decide +kernel
theorem dL_law_774 : decode cL_law 774 = .ok (.aload_n 0, 1) := by decide +kernel
theorem dL_law_775 : decode cL_law 775 = .ok (.iload_n 3, 1) := by decide +kernel
theorem dL_law_776 : decode cL_law 776 = .ok (.iconst 1, 1) := by decide +kernel
theorem dL_law_777 : decode cL_law 777 = .ok (.iadd, 1) := by decide +kernel
theorem dL_law_778 : decode cL_law 778 = .ok (.iaload, 1) := by decide +kernel
theorem dL_law_779 : decode cL_law 779 = .ok (.invokevirtual 108, 3) := by decide +kernel
theorem dL_law_782 : decode cL_law 782 = .ok (.if_icmp .eq 376, 3) := by decide +kernel
theorem dL_law_785 : decode cL_law 785 = .ok (.iconst 0, 1) := by decide +kernel
theorem dL_law_786 : decode cL_law 786 = .ok (.ireturn, 1) := by decide +kernel
theorem dL_law_787 : decode cL_law 787 = .ok (.aload_n 1, 1) := by decide +kernel
theorem dL_law_788 : decode cL_law 788 = .ok (.aload_n 0, 1) := by decide +kernel
theorem dL_law_789 : decode cL_law 789 = .ok (.iload_n 3, 1) := by decide +kernel
theorem dL_law_790 : decode cL_law 790 = .ok (.iconst 1, 1) := by decide +kernel
theorem dL_law_791 : decode cL_law 791 = .ok (.iadd, 1) := by decide +kernel
theorem dL_law_792 : decode cL_law 792 = .ok (.iaload, 1) := by decide +kernel
theorem dL_law_793 : decode cL_law 793 = .ok (.aload_n 0, 1) := by decide +kernel
theorem dL_law_794 : decode cL_law 794 = .ok (.iload_n 3, 1) := by decide +kernel
theorem dL_law_795 : decode cL_law 795 = .ok (.iconst 2, 1) := by decide +kernel
theorem dL_law_796 : decode cL_law 796 = .ok (.iadd, 1) := by decide +kernel
theorem dL_law_797 : decode cL_law 797 = .ok (.iaload, 1) := by decide +kernel
theorem dL_law_798 : decode cL_law 798 = .ok (.invokevirtual 109, 3) := by decide +kernel
theorem dL_law_801 : decode cL_law 801 = .ok (.aload_n 2, 1) := by decide +kernel
theorem dL_law_802 : decode cL_law 802 = .ok (.aload_n 0, 1) := by decide +kernel
theorem dL_law_803 : decode cL_law 803 = .ok (.iload_n 3, 1) := by decide +kernel
theorem dL_law_804 : decode cL_law 804 = .ok (.iconst 1, 1) := by decide +kernel
theorem dL_law_805 : decode cL_law 805 = .ok (.iadd, 1) := by decide +kernel
theorem dL_law_806 : decode cL_law 806 = .ok (.iaload, 1) := by decide +kernel
theorem dL_law_807 : decode cL_law 807 = .ok (.aload_n 0, 1) := by decide +kernel
theorem dL_law_808 : decode cL_law 808 = .ok (.iload_n 3, 1) := by decide +kernel
theorem dL_law_809 : decode cL_law 809 = .ok (.iconst 2, 1) := by decide +kernel
theorem dL_law_810 : decode cL_law 810 = .ok (.iadd, 1) := by decide +kernel
theorem dL_law_811 : decode cL_law 811 = .ok (.iaload, 1) := by decide +kernel
theorem dL_law_812 : decode cL_law 812 = .ok (.invokevirtual 112, 3) := by decide +kernel
theorem dL_law_815 : decode cL_law 815 = .ok (.if_icmp .eq 343, 3) := by decide +kernel
theorem dL_law_818 : decode cL_law 818 = .ok (.iconst 0, 1) := by decide +kernel
theorem dL_law_819 : decode cL_law 819 = .ok (.ireturn, 1) := by decide +kernel
theorem dL_law_820 : decode cL_law 820 = .ok (.aload_n 1, 1) := by decide +kernel
theorem dL_law_821 : decode cL_law 821 = .ok (.aload_n 0, 1) := by decide +kernel
theorem dL_law_822 : decode cL_law 822 = .ok (.iload_n 3, 1) := by decide +kernel
theorem dL_law_823 : decode cL_law 823 = .ok (.iconst 1, 1) := by decide +kernel
theorem dL_law_824 : decode cL_law 824 = .ok (.iadd, 1) := by decide +kernel
theorem dL_law_825 : decode cL_law 825 = .ok (.iaload, 1) := by decide +kernel
theorem dL_law_826 : decode cL_law 826 = .ok (.aload_n 0, 1) := by decide +kernel
theorem dL_law_827 : decode cL_law 827 = .ok (.iload_n 3, 1) := by decide +kernel
theorem dL_law_828 : decode cL_law 828 = .ok (.iconst 2, 1) := by decide +kernel
theorem dL_law_829 : decode cL_law 829 = .ok (.iadd, 1) := by decide +kernel
theorem dL_law_830 : decode cL_law 830 = .ok (.iaload, 1) := by decide +kernel
theorem dL_law_831 : decode cL_law 831 = .ok (.invokevirtual 113, 3) := by decide +kernel
theorem dL_law_834 : decode cL_law 834 = .ok (.aload_n 2, 1) := by decide +kernel
theorem dL_law_835 : decode cL_law 835 = .ok (.aload_n 0, 1) := by decide +kernel
theorem dL_law_836 : decode cL_law 836 = .ok (.iload_n 3, 1) := by decide +kernel
theorem dL_law_837 : decode cL_law 837 = .ok (.iconst 1, 1) := by decide +kernel
theorem dL_law_838 : decode cL_law 838 = .ok (.iadd, 1) := by decide +kernel
theorem dL_law_839 : decode cL_law 839 = .ok (.iaload, 1) := by decide +kernel
theorem dL_law_840 : decode cL_law 840 = .ok (.aload_n 0, 1) := by decide +kernel
theorem dL_law_841 : decode cL_law 841 = .ok (.iload_n 3, 1) := by decide +kernel
theorem dL_law_842 : decode cL_law 842 = .ok (.iconst 2, 1) := by decide +kernel
theorem dL_law_843 : decode cL_law 843 = .ok (.iadd, 1) := by decide +kernel
theorem dL_law_844 : decode cL_law 844 = .ok (.iaload, 1) := by decide +kernel
theorem dL_law_845 : decode cL_law 845 = .ok (.invokevirtual 116, 3) := by decide +kernel
theorem dL_law_848 : decode cL_law 848 = .ok (.if_icmp .eq 310, 3) := by decide +kernel
theorem dL_law_851 : decode cL_law 851 = .ok (.iconst 0, 1) := by decide +kernel
theorem dL_law_852 : decode cL_law 852 = .ok (.ireturn, 1) := by decide +kernel
theorem dL_law_853 : decode cL_law 853 = .ok (.aload_n 1, 1) := by decide +kernel
theorem dL_law_854 : decode cL_law 854 = .ok (.aload_n 0, 1) := by decide +kernel
theorem dL_law_855 : decode cL_law 855 = .ok (.iload_n 3, 1) := by decide +kernel
theorem dL_law_856 : decode cL_law 856 = .ok (.iconst 1, 1) := by decide +kernel
theorem dL_law_857 : decode cL_law 857 = .ok (.iadd, 1) := by decide +kernel
theorem dL_law_858 : decode cL_law 858 = .ok (.iaload, 1) := by decide +kernel
theorem dL_law_859 : decode cL_law 859 = .ok (.aload_n 0, 1) := by decide +kernel
theorem dL_law_860 : decode cL_law 860 = .ok (.iload_n 3, 1) := by decide +kernel
theorem dL_law_861 : decode cL_law 861 = .ok (.iconst 2, 1) := by decide +kernel
theorem dL_law_862 : decode cL_law 862 = .ok (.iadd, 1) := by decide +kernel
theorem dL_law_863 : decode cL_law 863 = .ok (.iaload, 1) := by decide +kernel
theorem dL_law_864 : decode cL_law 864 = .ok (.invokevirtual 117, 3) := by decide +kernel
theorem dL_law_867 : decode cL_law 867 = .ok (.aload_n 2, 1) := by decide +kernel
theorem dL_law_868 : decode cL_law 868 = .ok (.aload_n 0, 1) := by decide +kernel
theorem dL_law_869 : decode cL_law 869 = .ok (.iload_n 3, 1) := by decide +kernel
theorem dL_law_870 : decode cL_law 870 = .ok (.iconst 1, 1) := by decide +kernel
theorem dL_law_871 : decode cL_law 871 = .ok (.iadd, 1) := by decide +kernel
theorem dL_law_872 : decode cL_law 872 = .ok (.iaload, 1) := by decide +kernel
theorem dL_law_873 : decode cL_law 873 = .ok (.aload_n 0, 1) := by decide +kernel
theorem dL_law_874 : decode cL_law 874 = .ok (.iload_n 3, 1) := by decide +kernel
theorem dL_law_875 : decode cL_law 875 = .ok (.iconst 2, 1) := by decide +kernel
theorem dL_law_876 : decode cL_law 876 = .ok (.iadd, 1) := by decide +kernel
theorem dL_law_877 : decode cL_law 877 = .ok (.iaload, 1) := by decide +kernel
theorem dL_law_878 : decode cL_law 878 = .ok (.invokevirtual 120, 3) := by decide +kernel
theorem dL_law_881 : decode cL_law 881 = .ok (.if_icmp .eq 277, 3) := by decide +kernel
theorem dL_law_884 : decode cL_law 884 = .ok (.iconst 0, 1) := by decide +kernel
theorem dL_law_885 : decode cL_law 885 = .ok (.ireturn, 1) := by decide +kernel
theorem dL_law_886 : decode cL_law 886 = .ok (.aload_n 1, 1) := by decide +kernel
theorem dL_law_887 : decode cL_law 887 = .ok (.aload_n 0, 1) := by decide +kernel
theorem dL_law_888 : decode cL_law 888 = .ok (.iload_n 3, 1) := by decide +kernel
theorem dL_law_889 : decode cL_law 889 = .ok (.iconst 1, 1) := by decide +kernel
theorem dL_law_890 : decode cL_law 890 = .ok (.iadd, 1) := by decide +kernel
theorem dL_law_891 : decode cL_law 891 = .ok (.iaload, 1) := by decide +kernel
theorem dL_law_892 : decode cL_law 892 = .ok (.aload_n 0, 1) := by decide +kernel
theorem dL_law_893 : decode cL_law 893 = .ok (.iload_n 3, 1) := by decide +kernel
theorem dL_law_894 : decode cL_law 894 = .ok (.iconst 2, 1) := by decide +kernel
theorem dL_law_895 : decode cL_law 895 = .ok (.iadd, 1) := by decide +kernel
theorem dL_law_896 : decode cL_law 896 = .ok (.iaload, 1) := by decide +kernel
theorem dL_law_897 : decode cL_law 897 = .ok (.invokevirtual 121, 3) := by decide +kernel
theorem dL_law_900 : decode cL_law 900 = .ok (.aload_n 2, 1) := by decide +kernel
theorem dL_law_901 : decode cL_law 901 = .ok (.aload_n 0, 1) := by decide +kernel
theorem dL_law_902 : decode cL_law 902 = .ok (.iload_n 3, 1) := by decide +kernel
theorem dL_law_903 : decode cL_law 903 = .ok (.iconst 1, 1) := by decide +kernel
theorem dL_law_904 : decode cL_law 904 = .ok (.iadd, 1) := by decide +kernel
theorem dL_law_905 : decode cL_law 905 = .ok (.iaload, 1) := by decide +kernel
theorem dL_law_906 : decode cL_law 906 = .ok (.aload_n 0, 1) := by decide +kernel
theorem dL_law_907 : decode cL_law 907 = .ok (.iload_n 3, 1) := by decide +kernel
theorem dL_law_908 : decode cL_law 908 = .ok (.iconst 2, 1) := by decide +kernel
theorem dL_law_909 : decode cL_law 909 = .ok (.iadd, 1) := by decide +kernel
theorem dL_law_910 : decode cL_law 910 = .ok (.iaload, 1) := by decide +kernel
theorem dL_law_911 : decode cL_law 911 = .ok (.invokevirtual 124, 3) := by decide +kernel
theorem dL_law_914 : decode cL_law 914 = .ok (.if_icmp .eq 244, 3) := by decide +kernel
theorem dL_law_917 : decode cL_law 917 = .ok (.iconst 0, 1) := by decide +kernel
theorem dL_law_918 : decode cL_law 918 = .ok (.ireturn, 1) := by decide +kernel
theorem dL_law_919 : decode cL_law 919 = .ok (.aload_n 1, 1) := by decide +kernel
theorem dL_law_920 : decode cL_law 920 = .ok (.invokevirtual 125, 3) := by decide +kernel
theorem dL_law_923 : decode cL_law 923 = .ok (.aload_n 2, 1) := by decide +kernel
theorem dL_law_924 : decode cL_law 924 = .ok (.invokevirtual 128, 3) := by decide +kernel
theorem dL_law_927 : decode cL_law 927 = .ok (.if_icmp .eq 231, 3) := by decide +kernel
theorem dL_law_930 : decode cL_law 930 = .ok (.iconst 0, 1) := by decide +kernel
theorem dL_law_931 : decode cL_law 931 = .ok (.ireturn, 1) := by decide +kernel
theorem dL_law_932 : decode cL_law 932 = .ok (.aload_n 1, 1) := by decide +kernel
theorem dL_law_933 : decode cL_law 933 = .ok (.invokevirtual 129, 3) := by decide +kernel
theorem dL_law_936 : decode cL_law 936 = .ok (.aload_n 2, 1) := by decide +kernel
theorem dL_law_937 : decode cL_law 937 = .ok (.invokevirtual 132, 3) := by decide +kernel
theorem dL_law_940 : decode cL_law 940 = .ok (.if_icmp .eq 218, 3) := by decide +kernel
theorem dL_law_943 : decode cL_law 943 = .ok (.iconst 0, 1) := by decide +kernel
theorem dL_law_944 : decode cL_law 944 = .ok (.ireturn, 1) := by decide +kernel
theorem dL_law_945 : decode cL_law 945 = .ok (.aload_n 1, 1) := by decide +kernel
theorem dL_law_946 : decode cL_law 946 = .ok (.aload_n 0, 1) := by decide +kernel
theorem dL_law_947 : decode cL_law 947 = .ok (.iload_n 3, 1) := by decide +kernel
theorem dL_law_948 : decode cL_law 948 = .ok (.iconst 1, 1) := by decide +kernel
theorem dL_law_949 : decode cL_law 949 = .ok (.iadd, 1) := by decide +kernel
theorem dL_law_950 : decode cL_law 950 = .ok (.iaload, 1) := by decide +kernel
theorem dL_law_951 : decode cL_law 951 = .ok (.invokevirtual 133, 3) := by decide +kernel
theorem dL_law_954 : decode cL_law 954 = .ok (.aload_n 2, 1) := by decide +kernel
theorem dL_law_955 : decode cL_law 955 = .ok (.aload_n 0, 1) := by decide +kernel
theorem dL_law_956 : decode cL_law 956 = .ok (.iload_n 3, 1) := by decide +kernel
theorem dL_law_957 : decode cL_law 957 = .ok (.iconst 1, 1) := by decide +kernel
theorem dL_law_958 : decode cL_law 958 = .ok (.iadd, 1) := by decide +kernel
theorem dL_law_959 : decode cL_law 959 = .ok (.iaload, 1) := by decide +kernel
theorem dL_law_960 : decode cL_law 960 = .ok (.invokevirtual 136, 3) := by decide +kernel
theorem dL_law_963 : decode cL_law 963 = .ok (.if_icmp .eq 195, 3) := by decide +kernel
theorem dL_law_966 : decode cL_law 966 = .ok (.iconst 0, 1) := by decide +kernel
theorem dL_law_967 : decode cL_law 967 = .ok (.ireturn, 1) := by decide +kernel
theorem dL_law_968 : decode cL_law 968 = .ok (.aload_n 1, 1) := by decide +kernel
theorem dL_law_969 : decode cL_law 969 = .ok (.invokevirtual 137, 3) := by decide +kernel
theorem dL_law_972 : decode cL_law 972 = .ok (.aload_n 2, 1) := by decide +kernel
theorem dL_law_973 : decode cL_law 973 = .ok (.invokevirtual 140, 3) := by decide +kernel
theorem dL_law_976 : decode cL_law 976 = .ok (.if_icmp .eq 182, 3) := by decide +kernel
theorem dL_law_979 : decode cL_law 979 = .ok (.iconst 0, 1) := by decide +kernel
theorem dL_law_980 : decode cL_law 980 = .ok (.ireturn, 1) := by decide +kernel
theorem dL_law_981 : decode cL_law 981 = .ok (.aload_n 1, 1) := by decide +kernel
theorem dL_law_982 : decode cL_law 982 = .ok (.invokevirtual 141, 3) := by decide +kernel
theorem dL_law_985 : decode cL_law 985 = .ok (.aload_n 2, 1) := by decide +kernel
theorem dL_law_986 : decode cL_law 986 = .ok (.invokevirtual 144, 3) := by decide +kernel
theorem dL_law_989 : decode cL_law 989 = .ok (.if_icmp .eq 169, 3) := by decide +kernel
theorem dL_law_992 : decode cL_law 992 = .ok (.iconst 0, 1) := by decide +kernel
theorem dL_law_993 : decode cL_law 993 = .ok (.ireturn, 1) := by decide +kernel
theorem dL_law_994 : decode cL_law 994 = .ok (.aload_n 1, 1) := by decide +kernel
theorem dL_law_995 : decode cL_law 995 = .ok (.aload_n 0, 1) := by decide +kernel
theorem dL_law_996 : decode cL_law 996 = .ok (.iload_n 3, 1) := by decide +kernel
theorem dL_law_997 : decode cL_law 997 = .ok (.iconst 1, 1) := by decide +kernel
theorem dL_law_998 : decode cL_law 998 = .ok (.iadd, 1) := by decide +kernel
theorem dL_law_999 : decode cL_law 999 = .ok (.iaload, 1) := by decide +kernel
theorem dL_law_1000 : decode cL_law 1000 = .ok (.aload_n 0, 1) := by decide +kernel
theorem dL_law_1001 : decode cL_law 1001 = .ok (.iload_n 3, 1) := by decide +kernel
theorem dL_law_1002 : decode cL_law 1002 = .ok (.iconst 2, 1) := by decide +kernel
theorem dL_law_1003 : decode cL_law 1003 = .ok (.iadd, 1) := by decide +kernel
theorem dL_law_1004 : decode cL_law 1004 = .ok (.iaload, 1) := by decide +kernel
theorem dL_law_1005 : decode cL_law 1005 = .ok (.invokevirtual 145, 3) := by decide +kernel
theorem dL_law_1008 : decode cL_law 1008 = .ok (.aload_n 2, 1) := by decide +kernel
theorem dL_law_1009 : decode cL_law 1009 = .ok (.aload_n 0, 1) := by decide +kernel
theorem dL_law_1010 : decode cL_law 1010 = .ok (.iload_n 3, 1) := by decide +kernel
theorem dL_law_1011 : decode cL_law 1011 = .ok (.iconst 1, 1) := by decide +kernel
theorem dL_law_1012 : decode cL_law 1012 = .ok (.iadd, 1) := by decide +kernel
theorem dL_law_1013 : decode cL_law 1013 = .ok (.iaload, 1) := by decide +kernel
theorem dL_law_1014 : decode cL_law 1014 = .ok (.aload_n 0, 1) := by decide +kernel
theorem dL_law_1015 : decode cL_law 1015 = .ok (.iload_n 3, 1) := by decide +kernel
theorem dL_law_1016 : decode cL_law 1016 = .ok (.iconst 2, 1) := by decide +kernel
theorem dL_law_1017 : decode cL_law 1017 = .ok (.iadd, 1) := by decide +kernel
theorem dL_law_1018 : decode cL_law 1018 = .ok (.iaload, 1) := by decide +kernel
theorem dL_law_1019 : decode cL_law 1019 = .ok (.invokevirtual 148, 3) := by decide +kernel
theorem dL_law_1022 : decode cL_law 1022 = .ok (.if_icmp .eq 136, 3) := by decide +kernel
theorem dL_law_1025 : decode cL_law 1025 = .ok (.iconst 0, 1) := by decide +kernel
theorem dL_law_1026 : decode cL_law 1026 = .ok (.ireturn, 1) := by decide +kernel
theorem dL_law_1027 : decode cL_law 1027 = .ok (.aload_n 1, 1) := by decide +kernel
theorem dL_law_1028 : decode cL_law 1028 = .ok (.aload_n 0, 1) := by decide +kernel
theorem dL_law_1029 : decode cL_law 1029 = .ok (.iload_n 3, 1) := by decide +kernel
theorem dL_law_1030 : decode cL_law 1030 = .ok (.iconst 1, 1) := by decide +kernel
theorem dL_law_1031 : decode cL_law 1031 = .ok (.iadd, 1) := by decide +kernel
theorem dL_law_1032 : decode cL_law 1032 = .ok (.iaload, 1) := by decide +kernel
theorem dL_law_1033 : decode cL_law 1033 = .ok (.invokevirtual 149, 3) := by decide +kernel
theorem dL_law_1036 : decode cL_law 1036 = .ok (.aload_n 2, 1) := by decide +kernel
theorem dL_law_1037 : decode cL_law 1037 = .ok (.aload_n 0, 1) := by decide +kernel
theorem dL_law_1038 : decode cL_law 1038 = .ok (.iload_n 3, 1) := by decide +kernel
theorem dL_law_1039 : decode cL_law 1039 = .ok (.iconst 1, 1) := by decide +kernel
theorem dL_law_1040 : decode cL_law 1040 = .ok (.iadd, 1) := by decide +kernel
theorem dL_law_1041 : decode cL_law 1041 = .ok (.iaload, 1) := by decide +kernel
theorem dL_law_1042 : decode cL_law 1042 = .ok (.invokevirtual 152, 3) := by decide +kernel
theorem dL_law_1045 : decode cL_law 1045 = .ok (.if_icmp .eq 113, 3) := by decide +kernel
theorem dL_law_1048 : decode cL_law 1048 = .ok (.iconst 0, 1) := by decide +kernel
theorem dL_law_1049 : decode cL_law 1049 = .ok (.ireturn, 1) := by decide +kernel
theorem dL_law_1050 : decode cL_law 1050 = .ok (.aload_n 1, 1) := by decide +kernel
theorem dL_law_1051 : decode cL_law 1051 = .ok (.aload_n 0, 1) := by decide +kernel
theorem dL_law_1052 : decode cL_law 1052 = .ok (.iload_n 3, 1) := by decide +kernel
theorem dL_law_1053 : decode cL_law 1053 = .ok (.iconst 1, 1) := by decide +kernel
theorem dL_law_1054 : decode cL_law 1054 = .ok (.iadd, 1) := by decide +kernel
theorem dL_law_1055 : decode cL_law 1055 = .ok (.iaload, 1) := by decide +kernel
theorem dL_law_1056 : decode cL_law 1056 = .ok (.invokevirtual 153, 3) := by decide +kernel
theorem dL_law_1059 : decode cL_law 1059 = .ok (.aload_n 2, 1) := by decide +kernel
theorem dL_law_1060 : decode cL_law 1060 = .ok (.aload_n 0, 1) := by decide +kernel
theorem dL_law_1061 : decode cL_law 1061 = .ok (.iload_n 3, 1) := by decide +kernel
theorem dL_law_1062 : decode cL_law 1062 = .ok (.iconst 1, 1) := by decide +kernel
theorem dL_law_1063 : decode cL_law 1063 = .ok (.iadd, 1) := by decide +kernel
theorem dL_law_1064 : decode cL_law 1064 = .ok (.iaload, 1) := by decide +kernel
theorem dL_law_1065 : decode cL_law 1065 = .ok (.invokevirtual 156, 3) := by decide +kernel
theorem dL_law_1068 : decode cL_law 1068 = .ok (.if_icmp .eq 90, 3) := by decide +kernel
theorem dL_law_1071 : decode cL_law 1071 = .ok (.iconst 0, 1) := by decide +kernel
theorem dL_law_1072 : decode cL_law 1072 = .ok (.ireturn, 1) := by decide +kernel
theorem dL_law_1073 : decode cL_law 1073 = .ok (.aload_n 1, 1) := by decide +kernel
theorem dL_law_1074 : decode cL_law 1074 = .ok (.invokevirtual 157, 3) := by decide +kernel
theorem dL_law_1077 : decode cL_law 1077 = .ok (.aload_n 2, 1) := by decide +kernel
theorem dL_law_1078 : decode cL_law 1078 = .ok (.invokevirtual 160, 3) := by decide +kernel
theorem dL_law_1081 : decode cL_law 1081 = .ok (.if_icmp .eq 77, 3) := by decide +kernel
theorem dL_law_1084 : decode cL_law 1084 = .ok (.iconst 0, 1) := by decide +kernel
theorem dL_law_1085 : decode cL_law 1085 = .ok (.ireturn, 1) := by decide +kernel
theorem dL_law_1086 : decode cL_law 1086 = .ok (.aload_n 1, 1) := by decide +kernel
theorem dL_law_1087 : decode cL_law 1087 = .ok (.invokevirtual 161, 3) := by decide +kernel
theorem dL_law_1090 : decode cL_law 1090 = .ok (.aload_n 2, 1) := by decide +kernel
theorem dL_law_1091 : decode cL_law 1091 = .ok (.invokevirtual 164, 3) := by decide +kernel
theorem dL_law_1094 : decode cL_law 1094 = .ok (.if_icmp .eq 64, 3) := by decide +kernel
theorem dL_law_1097 : decode cL_law 1097 = .ok (.iconst 0, 1) := by decide +kernel
theorem dL_law_1098 : decode cL_law 1098 = .ok (.ireturn, 1) := by decide +kernel
theorem dL_law_1099 : decode cL_law 1099 = .ok (.aload_n 1, 1) := by decide +kernel
theorem dL_law_1100 : decode cL_law 1100 = .ok (.invokevirtual 165, 3) := by decide +kernel
theorem dL_law_1103 : decode cL_law 1103 = .ok (.aload_n 2, 1) := by decide +kernel
theorem dL_law_1104 : decode cL_law 1104 = .ok (.invokevirtual 168, 3) := by decide +kernel
theorem dL_law_1107 : decode cL_law 1107 = .ok (.if_icmp .eq 51, 3) := by decide +kernel
theorem dL_law_1110 : decode cL_law 1110 = .ok (.iconst 0, 1) := by decide +kernel
theorem dL_law_1111 : decode cL_law 1111 = .ok (.ireturn, 1) := by decide +kernel
theorem dL_law_1112 : decode cL_law 1112 = .ok (.aload_n 1, 1) := by decide +kernel
theorem dL_law_1113 : decode cL_law 1113 = .ok (.aload_n 0, 1) := by decide +kernel
theorem dL_law_1114 : decode cL_law 1114 = .ok (.iload_n 3, 1) := by decide +kernel
theorem dL_law_1115 : decode cL_law 1115 = .ok (.iconst 1, 1) := by decide +kernel
theorem dL_law_1116 : decode cL_law 1116 = .ok (.iadd, 1) := by decide +kernel
theorem dL_law_1117 : decode cL_law 1117 = .ok (.iaload, 1) := by decide +kernel
theorem dL_law_1118 : decode cL_law 1118 = .ok (.invokevirtual 169, 3) := by decide +kernel
theorem dL_law_1121 : decode cL_law 1121 = .ok (.aload_n 2, 1) := by decide +kernel
theorem dL_law_1122 : decode cL_law 1122 = .ok (.aload_n 0, 1) := by decide +kernel
theorem dL_law_1123 : decode cL_law 1123 = .ok (.iload_n 3, 1) := by decide +kernel
theorem dL_law_1124 : decode cL_law 1124 = .ok (.iconst 1, 1) := by decide +kernel
theorem dL_law_1125 : decode cL_law 1125 = .ok (.iadd, 1) := by decide +kernel
theorem dL_law_1126 : decode cL_law 1126 = .ok (.iaload, 1) := by decide +kernel
theorem dL_law_1127 : decode cL_law 1127 = .ok (.invokevirtual 172, 3) := by decide +kernel
theorem dL_law_1130 : decode cL_law 1130 = .ok (.if_icmp .eq 28, 3) := by decide +kernel
theorem dL_law_1133 : decode cL_law 1133 = .ok (.iconst 0, 1) := by decide +kernel
theorem dL_law_1134 : decode cL_law 1134 = .ok (.ireturn, 1) := by decide +kernel
theorem dL_law_1135 : decode cL_law 1135 = .ok (.aload_n 1, 1) := by decide +kernel
theorem dL_law_1136 : decode cL_law 1136 = .ok (.aload_n 0, 1) := by decide +kernel
theorem dL_law_1137 : decode cL_law 1137 = .ok (.iload_n 3, 1) := by decide +kernel
theorem dL_law_1138 : decode cL_law 1138 = .ok (.iconst 1, 1) := by decide +kernel
theorem dL_law_1139 : decode cL_law 1139 = .ok (.iadd, 1) := by decide +kernel
theorem dL_law_1140 : decode cL_law 1140 = .ok (.iaload, 1) := by decide +kernel
theorem dL_law_1141 : decode cL_law 1141 = .ok (.invokevirtual 173, 3) := by decide +kernel
theorem dL_law_1144 : decode cL_law 1144 = .ok (.aload_n 2, 1) := by decide +kernel
theorem dL_law_1145 : decode cL_law 1145 = .ok (.aload_n 0, 1) := by decide +kernel
theorem dL_law_1146 : decode cL_law 1146 = .ok (.iload_n 3, 1) := by decide +kernel
theorem dL_law_1147 : decode cL_law 1147 = .ok (.iconst 1, 1) := by decide +kernel
theorem dL_law_1148 : decode cL_law 1148 = .ok (.iadd, 1) := by decide +kernel
theorem dL_law_1149 : decode cL_law 1149 = .ok (.iaload, 1) := by decide +kernel
theorem dL_law_1150 : decode cL_law 1150 = .ok (.invokevirtual 176, 3) := by decide +kernel
theorem dL_law_1153 : decode cL_law 1153 = .ok (.if_icmp .eq 5, 3) := by decide +kernel
theorem dL_law_1156 : decode cL_law 1156 = .ok (.iconst 0, 1) := by decide +kernel
theorem dL_law_1157 : decode cL_law 1157 = .ok (.ireturn, 1) := by decide +kernel
theorem dL_law_1158 : decode cL_law 1158 = .ok (.iinc 3 4, 3) := by decide +kernel
theorem dL_law_1161 : decode cL_law 1161 = .ok (.goto (-1143), 3) := by decide +kernel
theorem dL_law_1164 : decode cL_law 1164 = .ok (.iconst 1, 1) := by decide +kernel
theorem dL_law_1165 : decode cL_law 1165 = .ok (.ireturn, 1) := by decide +kernel
end
section
/-! the rows that store, with the heap's size -/
section ZZ
variable {p : Program} {l : Launch} {e : Env} {R : Room} {s : State} {m : MethodId} {args : Array Value} {below : List Frame} {meth : Method} {c : Code} {H : Heap} {locs : List Loc} {cells slots : Nat} {Q : State → Prop}
variable {cc : ByteArray} {pc : Nat} {ls : Array Slot} {rest : List Value} {D : va_G} {cl : List vw_C} {A : Nat → Prop} {a : Nat} {tys : List (ClassId × FieldType)} {ws : va_W} {H0 : Heap}
theorem z_put (hexec : p.tables.exec = Jvm.exec) (hb : c.code = cc) {own ref C : String} {T : u_T} {N ci index : Nat} {Ts : List Cond} (hts : ∀ w ∈ Ts, w.before args s = true) (hin : ∀ w ∈ u_ws C T N, w ∈ Ts) (ty0 : Nat → FieldType) (hty : ∀ k, k < N → parseFieldDescriptor (T k).2.2.1 = some (ty0 k)) (hnm : ∀ a, a < N → ∀ b, b < N → a ≠ b → (T a).2.1 ≠ (T b).2.1) (hown : s.vm.findClass own = some m.cls) (hK : va_K D cl tys s) (hP : va_P D cl ws H) (hD : va_D A ws) (hS0 : va_S A H0 H locs) (q0 : Nat) {fs : List Value} (he : ws[q0]? = some (a, .inr (ci, fs))) (hc : cl[ci]? = some (C, T, N)) (k : Nat) (hk : k < N) (hlink : (Cond.fieldLink own index ref (T k).2.1 (T k).2.2.1).before args s = true) (hsame : ∀ x, s.fieldFound? (T k).1 (T k).2.1 (T k).2.2.1 = some x → s.fieldFound? ref (T k).2.1 (T k).2.2.1 = some x) (hfin : (T k).2.2.2 = false) {ty : FieldType} {v : Value} (hd : parseFieldDescriptor (T k).2.2.1 = some ty) (hn : narrow ty v = v) (hfit : fits ty v = true) (hl : k < fs.length)
    (hdg : decode cc pc = .ok (.putfield index, 3)) (kk : ∀ (H1 : Heap) (locs1 : List Loc), H1.size = H.size → va_P D cl (ws.set q0 (a, .inr (ci, fs.set k v))) H1 → va_D A (ws.set q0 (a, .inr (ci, fs.set k v))) → va_S A H0 H1 locs1 → W p l e R s m args below meth c H1 locs1 cells slots Q (F0 m (pc + 3) ls rest)) : W p l e R s m args below meth c H locs cells slots Q (F0 m pc ls (v :: .ref a :: rest)) := by
  have hap := va_apart (own := own) hts hin ty0 hty hnm hK hc
  obtain ⟨r, h1, cell, q1, q2, q3, q4⟩ := hP q0 _ he
  have hr : r = (C, T, N) := Option.some.inj (h1.symm.trans hc)
  subst hr
  obtain ⟨hS, hfc, kC, hkC, hkind⟩ := hK.1 ci _ hc
  obtain ⟨cf, kf, fi, f, hi, hsl⟩ := hS k hk
  have hlay := hts _ (hin _ (u_in_lay hk))
  unfold u_lay at hlay
  rw [if_neg (by rw [hfin]; decide)] at hlay
  have hst := (u_facts hfc hkC (u_lays hts hin hk) hi).1
  have h6 := u_store hfc hkC hkind hlay hi hd hn hfit
  refine W.putK hexec hb (f := f) ⟨hown, hlink, ⟨_, _, _, hsame _ hi⟩, hst⟩ (by rw [q2]; exact h6) q1 q3 (by rw [hsl]; exact k2_hasslot (q4 k hk)) rfl rfl hdg fun H' e1 e2 e3 => ?_
  rw [hsl] at e1 ⊢
  exact kk H' _ e2 (hP.set hD he ⟨_, hc, t_OB.to (V := updV (vp_V fs) k v) ⟨_, e1, q2, q3, t_set q4 hap hk v⟩ (fun j _ => vp_updV_set hl v j)⟩ e3) (hD.set he) (hS0.put e2 e3 (hD.2 q0 _ he))
theorem z_putF (hexec : p.tables.exec = Jvm.exec) (hb : c.code = cc) {own ref C : String} {T : u_T} {N ci index : Nat} {Ts : List Cond} (hts : ∀ w ∈ Ts, w.before args s = true) (hin : ∀ w ∈ u_ws C T N, w ∈ Ts) (ty0 : Nat → FieldType) (hty : ∀ k, k < N → parseFieldDescriptor (T k).2.2.1 = some (ty0 k)) (hnm : ∀ a, a < N → ∀ b, b < N → a ≠ b → (T a).2.1 ≠ (T b).2.1) (hown : s.vm.findClass own = some m.cls) (hK : va_K D cl tys s) (hP : va_P D cl ws H) (hD : va_D A ws) (hS0 : va_S A H0 H locs) (q0 : Nat) {fs : List Value} (he : ws[q0]? = some (a, .inr (ci, fs))) (hc : cl[ci]? = some (C, T, N)) (k : Nat) (hk : k < N) (hlink : (Cond.fieldLink own index ref (T k).2.1 (T k).2.2.1).before args s = true) (hsame : ∀ x, s.fieldFound? (T k).1 (T k).2.1 (T k).2.2.1 = some x → s.fieldFound? ref (T k).2.1 (T k).2.2.1 = some x) (hfin : (T k).2.2.2 = true) (hin2 : meth.name = "<init>") (hdecl : (T k).1 = own) {ty : FieldType} {v : Value} (hd : parseFieldDescriptor (T k).2.2.1 = some ty) (hn : narrow ty v = v) (hfit : fits ty v = true) (hl : k < fs.length)
    (hdg : decode cc pc = .ok (.putfield index, 3)) (kk : ∀ (H1 : Heap) (locs1 : List Loc), H1.size = H.size → va_P D cl (ws.set q0 (a, .inr (ci, fs.set k v))) H1 → va_D A (ws.set q0 (a, .inr (ci, fs.set k v))) → va_S A H0 H1 locs1 → W p l e R s m args below meth c H1 locs1 cells slots Q (F0 m (pc + 3) ls rest)) : W p l e R s m args below meth c H locs cells slots Q (F0 m pc ls (v :: .ref a :: rest)) := by
  have hap := va_apart (own := own) hts hin ty0 hty hnm hK hc
  obtain ⟨r, h1, cell, q1, q2, q3, q4⟩ := hP q0 _ he
  have hr : r = (C, T, N) := Option.some.inj (h1.symm.trans hc)
  subst hr
  obtain ⟨hS, hfc, kC, hkC, hkind⟩ := hK.1 ci _ hc
  obtain ⟨cf, kf, fi, f, hi, hsl⟩ := hS k hk
  have hlay := hts _ (hin _ (u_in_lay hk))
  unfold u_lay at hlay
  rw [if_pos hfin] at hlay
  have hst := (u_facts hfc hkC (u_lays hts hin hk) hi).1
  have hcf : m.cls = cf := by
    obtain ⟨_, _, c', _, _, _, -, -, hf', -, -, -, hown2, -⟩ := Cond.laysFinal_spec hlay
    have e1 : c' = cf := by have := hi.symm.trans hf'; simp at this; exact this.1.symm
    rw [hdecl] at hown2
    rw [← e1]; exact Option.some.inj (hown.symm.trans hown2)
  have h6 := u_fits hfc hkC hkind (Or.inr hlay) hi hd hn hfit
  refine W.putFinK hexec hb hown hlink (hsame _ hi) hst hcf hin2 (by rw [q2]; exact h6) q1 q3 (by rw [hsl]; exact k2_hasslot (q4 k hk)) rfl rfl hdg fun H' e1 e2 e3 => ?_
  rw [hsl] at e1 ⊢
  exact kk H' _ e2 (hP.set hD he ⟨_, hc, t_OB.to (V := updV (vp_V fs) k v) ⟨_, e1, q2, q3, t_set q4 hap hk v⟩ (fun j _ => vp_updV_set hl v j)⟩ e3) (hD.set he) (hS0.put e2 e3 (hD.2 q0 _ he))
theorem z_iast (hexec : p.tables.exec = Jvm.exec) (hb : c.code = cc) (hK : va_K D cl tys s) (hP : va_P D cl ws H) (hD : va_D A ws) (hS : va_S A H0 H locs) (q0 t0 : Nat) {cA : ClassId} {n : Nat} {f : Nat → Int32} (ha : ws[q0]? = some (a, .inl (cA, n, .inl f))) (ht : tys[t0]? = some (cA, .int)) {i : Int32} {x : Int32} (hin : vp_in i n) (hdg : decode cc pc = .ok (.iastore, 1))
    (kk : ∀ (H1 : Heap) (locs1 : List Loc), H1.size = H.size → va_P D cl (ws.set q0 (a, .inl (cA, n, .inl (upd f i.toNatClampNeg x)))) H1 → va_D A (ws.set q0 (a, .inl (cA, n, .inl (upd f i.toNatClampNeg x)))) → va_S A H0 H1 locs1 → W p l e R s m args below meth c H1 locs1 cells slots Q (F0 m (pc + 1) ls rest)) : W p l e R s m args below meth c H locs cells slots Q (F0 m pc ls (.int x :: .int i :: .ref a :: rest)) := by
  refine W.iast hexec hb (hP q0 _ ha) ((hK.2 t0 _ ht).1 n (fun j => .int (f j))) (fun q => by cases q) (by show ¬ (i < 0 ∨ (arrV _ _ _).slots.size ≤ _); rw [arrV_size]; exact hin) rfl rfl hdg fun H1 e z oq => ?_
  refine kk H1 _ z (hP.set hD ha ?_ oq) (hD.set ha) (hS.put z oq (hD.2 q0 _ ha))
  show H1[a]? = some (vp_cell _ _)
  rw [e]
  rw [vp_cell_i, vp_cell_i, arrV_store]
  congr 2
  funext q
  by_cases hq : q = i.toNatClampNeg
  · subst hq
    simp [updV, upd]
  · simp [updV, upd, hq]
theorem z_bast (hexec : p.tables.exec = Jvm.exec) (hb : c.code = cc) (hK : va_K D cl tys s) (hP : va_P D cl ws H) (hD : va_D A ws) (hS : va_S A H0 H locs) (q0 t0 : Nat) {cA : ClassId} {n : Nat} {f : Nat → Int32} (ha : ws[q0]? = some (a, .inl (cA, n, .inl f))) (ht : tys[t0]? = some (cA, .byte)) {i : Int32} {x : Int32} (hin : vp_in i n) (hdg : decode cc pc = .ok (.bastore, 1))
    (kk : ∀ (H1 : Heap) (locs1 : List Loc), H1.size = H.size → va_P D cl (ws.set q0 (a, .inl (cA, n, .inl (upd f i.toNatClampNeg (vp_nar .byte x))))) H1 → va_D A (ws.set q0 (a, .inl (cA, n, .inl (upd f i.toNatClampNeg (vp_nar .byte x))))) → va_S A H0 H1 locs1 → W p l e R s m args below meth c H1 locs1 cells slots Q (F0 m (pc + 1) ls rest)) : W p l e R s m args below meth c H locs cells slots Q (F0 m pc ls (.int x :: .int i :: .ref a :: rest)) := by
  refine W.bast hexec hb (hP q0 _ ha) ((hK.2 t0 _ ht).1 n (fun j => .int (f j))) (fun q => by cases q) (by show ¬ (i < 0 ∨ (arrV _ _ _).slots.size ≤ _); rw [arrV_size]; exact hin) rfl rfl hdg fun H1 e z oq => ?_
  refine kk H1 _ z (hP.set hD ha ?_ oq) (hD.set ha) (hS.put z oq (hD.2 q0 _ ha))
  show H1[a]? = some (vp_cell _ _)
  rw [e]
  rw [vp_cell_i, vp_cell_i, arrV_store]
  congr 2
  funext q
  by_cases hq : q = i.toNatClampNeg
  · subst hq
    simp [updV, upd, vp_nar]
    try rfl
  · simp [updV, upd, hq]
theorem z_astq (hexec : p.tables.exec = Jvm.exec) (hb : c.code = cc) (hK : va_K D cl tys s) (hP : va_P D cl ws H) (hD : va_D A ws) (hS : va_S A H0 H locs) (q0 t0 qk ci : Nat) {cA : ClassId} {r : vw_C} {n v : Nat} {vs : List Value} {f : Nat → Option Nat} (ha : ws[q0]? = some (a, .inl (cA, n, .inr (.inr (.inr (.inr f)))))) (ht : tys[t0]? = some (cA, .object r.1)) (hv : ws[qk]? = some (v, .inr (ci, vs))) (hc : cl[ci]? = some r) {i : Int32} (hin : vp_in i n) (hdg : decode cc pc = .ok (.aastore, 1))
    (kk : ∀ (H1 : Heap) (locs1 : List Loc), H1.size = H.size → va_P D cl (ws.set q0 (a, .inl (cA, n, .inr (.inr (.inr (.inr (va_up f i.toNatClampNeg (some v)))))))) H1 → va_D A (ws.set q0 (a, .inl (cA, n, .inr (.inr (.inr (.inr (va_up f i.toNatClampNeg (some v)))))))) → va_S A H0 H1 locs1 → W p l e R s m args below meth c H1 locs1 cells slots Q (F0 m (pc + 1) ls rest)) : W p l e R s m args below meth c H locs cells slots Q (F0 m pc ls (.ref v :: .int i :: .ref a :: rest)) := by
  have hlt : i.toNatClampNeg < n := Nat.not_le.mp fun q => hin (Or.inr q)
  have h0 : ¬ i < 0 := fun q => hin (Or.inl q)
  obtain ⟨r', hr', cellV, g1, g2, g3, -⟩ := hP qk _ hv
  have hcls := (hK.1 ci r hc).2
  obtain ⟨kA, comp, k1, k2, k3, -⟩ := (hK.2 t0 _ ht).2
  have hcomp : comp = D.1 ci := Option.some.inj (k3.symm.trans hcls.1)
  subst hcomp
  obtain ⟨kC, hkC, -⟩ := hcls.2
  refine W.aast hexec hb (hP q0 _ ha) (fun q h => by cases h) (fun h => by cases h) k1 k2 rfl hkC ⟨h0, by show _ < (arrV _ _ _).slots.size; rw [arrV_size]; exact hlt⟩ g1 (fun q h => by rw [g3] at h; cases h) (by rw [g2]; exact hkC) (by rw [g2]; exact va_assign hcls) rfl rfl hdg fun H1 e z oq => ?_
  refine kk H1 _ z (hP.set hD ha ?_ oq) (hD.set ha) (hS.put z oq (hD.2 q0 _ ha))
  show H1[a]? = some (vp_cell _ _)
  rw [e]
  rw [vp_cell_q, vp_cell_q, arrV_store]
  congr 2
  funext q
  by_cases hq : q = i.toNatClampNeg
  · subst hq
    simp [updV, va_up, va_rf]
  · simp [updV, va_up, hq]
theorem z_copyi {cc : ByteArray} (hexec : p.tables.exec = Jvm.exec) (hb : c.code = cc) (hml : c.maxLocals = ls.size) {own : String} {index : Nat} (hown : s.vm.findClass own = some m.cls) (hlink : (Cond.methodLink own index arraycopyName).before args s = true) (hnat : (Cond.native arraycopyName).before args s = true) (hstat : (Cond.static arraycopyName).before args s = true) (hini : (Cond.initialized "java/lang/System").before args s = true)
    (hK : va_K D cl tys s) (hP : va_P D cl ws H) (hD : va_D A ws) (hS : va_S A H0 H locs) (q1 t1 : Nat) {a0 : Nat} {c1 : ClassId} {n0 n1 : Nat} {f g : Nat → Int32} {ty : FieldType} {scr : Cell} (hc0 : H[a0]? = some scr) (hs2 : s.isArrayOf scr ty) (hs3 : scr.vm ≠ .unknown) (hs4 : n0 ≤ scr.slots.size) (hs5 : ∀ j : Nat, j < n0 → scr.slots[j]? = some (.int (f j))) (ha1 : ws[q1]? = some (a, .inl (c1, n1, .inl g))) (ht1 : tys[t1]? = some (c1, ty)) (hprim : refKind ty = false)
    {sp dp n : Int32} (h1 : ¬ sp < 0) (h2 : ¬ dp < 0) (h3 : ¬ n < 0) (h4 : sp.toNatClampNeg + n.toNatClampNeg ≤ n0) (h5 : dp.toNatClampNeg + n.toNatClampNeg ≤ n1) (hfit : ∀ i, i < n.toNatClampNeg → fits ty (.int (f (sp.toNatClampNeg + i))) = true)
    (hframes : 1 ≤ R.frames) (hlocals : (rest.map fun v => v.category).sum + (nativeFrameWords "java/lang/System" "arraycopy" 5 + 11) ≤ R.locals) (hdg : decode cc pc = .ok (.invokestatic index, 3))
    (kk : ∀ (H1 : Heap) (locs1 : List Loc), H1.size = H.size → va_P D cl (ws.set q1 (a, .inl (c1, n1, .inl (va_cpy f g sp.toNatClampNeg dp.toNatClampNeg n.toNatClampNeg)))) H1 → va_D A (ws.set q1 (a, .inl (c1, n1, .inl (va_cpy f g sp.toNatClampNeg dp.toNatClampNeg n.toNatClampNeg)))) → va_S A H0 H1 locs1 → W p l e R s m args below meth c H1 locs1 cells slots Q (F0 m (pc + 3) ls rest)) : W p l e R s m args below meth c H locs cells slots Q (F0 m pc ls (.int n :: .int dp :: .ref a :: .int sp :: .ref a0 :: rest)) := by
  have nn : ∀ z : Int32, ¬ z < 0 → z.toInt = (z.toNatClampNeg : Int) := by
    intro z hz
    have hz0 : (0 : Int) ≤ z.toInt := by
      have := Int32.not_lt.mp hz
      simpa using Int32.le_iff_toInt_le.mp this
    show z.toInt = ((z.toInt.toNat : Nat) : Int)
    omega
  intro T hT X
  have hc1 : H[a]? = some (vp_cell c1 (n1, .inl g)) := hP q1 _ ha1
  obtain ⟨hs6, k0, hk0, cm0, hkk0⟩ := hs2
  obtain ⟨-, k1, hk1, cm1, hkk1⟩ := (hK.2 t1 _ ht1).1 n1 (fun j => .int (g j))
  obtain ⟨vm', X', step⟩ := X.arraycopy hexec hown hlink hnat hstat hini (src := a0) (dst := a) (cs := scr) (cd := vp_cell c1 (n1, .inl g)) (srcPos := sp) (destPos := dp) (n := n) (by rw [hT]; exact hc0) (by rw [hT]; exact hc1)
    hs6 (fun _ h => by cases h) hs3 (fun h => by cases h) hk0 hk1 hkk0 hkk1 (by simp [hprim]) h1 h2 h3
    (by rw [nn sp h1, nn n h3]; omega)
    (by rw [nn dp h2, nn n h3]; show ¬ _ > ((arrV c1 n1 (fun j => .int (g j))).slots.size : Int); rw [arrV_size]; omega)
    (fun vm₁ _ i hi => by
      have e : scr.slots.getD (sp.toNatClampNeg + i) .null = .int (f (sp.toNatClampNeg + i)) := by
        rw [Array.getD_eq_getD_getElem?, hs5 _ (by omega)]
        rfl
      refine ⟨?_, ?_⟩
      · rw [e]
        exact hfit i hi
      · rw [e]
        exact trivial)
    (g := F0 m pc ls (.int n :: .int dp :: .ref a :: .int sp :: .ref a0 :: rest)) rfl (by rw [hml]) (rest := rest) rfl (by rw [hb]; exact hdg) hframes (by show 2 * 0 + _ + _ ≤ _; omega)
  have e1 : copied scr (vp_cell c1 (n1, .inl g)) sp dp n = vp_cell c1 (n1, .inl (va_cpy f g sp.toNatClampNeg dp.toNatClampNeg n.toNatClampNeg)) := va_copiedX (fun z => .int z) scr c1 f g hs5 h4
  rw [e1] at X' step
  have hl : a < H.size := (Array.getElem?_eq_some_iff.mp hc1).1
  have hheap : ((T.setVm vm').setCell a (vp_cell c1 (n1, .inl (va_cpy f g sp.toNatClampNeg dp.toNatClampNeg n.toNatClampNeg)))).heap = H.setIfInBounds a (vp_cell c1 (n1, .inl (va_cpy f g sp.toNatClampNeg dp.toNatClampNeg n.toNatClampNeg))) := by rw [← hT]; rfl
  have oq : ∀ q : Nat, q ≠ a → (H.setIfInBounds a (vp_cell c1 (n1, .inl (va_cpy f g sp.toNatClampNeg dp.toNatClampNeg n.toNatClampNeg))))[q]? = H[q]? := fun q hq => by simp [Array.getElem?_setIfInBounds, Ne.symm hq]
  obtain ⟨t, a1, b1⟩ := kk _ _ (by simp) (hP.set hD ha1 (show (H.setIfInBounds a _)[a]? = some _ by simp [Array.getElem?_setIfInBounds, hl]) oq) (hD.set ha1) ⟨by simp; exact hS.1, fun q g1 g2 => by
      rw [oq q (fun e => g2 (by rw [e]; exact hD.2 q1 _ ha1))]
      exact hS.2.1 q g1 g2, fun q hq => by
      rcases List.mem_append.mp hq with h | h
      · exact hS.2.2 q h
      · obtain ⟨z, -, hz⟩ := List.mem_map.mp h
        rw [← hz]
        exact hD.2 q1 _ ha1⟩ _ hheap X'
  exact ⟨t, step t a1, b1⟩
end ZZ
end
section
/-! the judgement: memory as a function of addresses -/
/-- the words that stay true as the tables warm -/
def lw_g : List Cond := lw_tbl.filter goodWord
theorem lw_in {w : Cond} (h : w ∈ lw_tbl) (g : goodWord w = true) : w ∈ lw_g := List.mem_filter.mpr ⟨h, g⟩
theorem lw_gin {w : Cond} (h : w ∈ lw_g) : w ∈ lw_tbl := (List.mem_filter.mp h).1
theorem lw_ggood : GoodIn lw_g lw_g := fun w h => ⟨h, good_of_word (List.mem_filter.mp h).2⟩
def nwF : Cond := .fieldLinkNest "LockSimulator$Lock" 63 "LockSimulator$Line" "size" "I" "LockSimulator"
def nwM : Cond := .methodLinkNest "LockSimulator$World" 132 ⟨"LockSimulator", "isObject", "(I)Z"⟩ "LockSimulator"
abbrev GG : Type := Launch × va_G × List (ClassId × FieldType) × Nat × List (String × String × String × Value) × List (FieldType × Nat × Nat × (Nat → Value)) × List (String × String × String × Value × Nat) × List (String × Nat) × List (String × Nat × String × Nat)
def gL (G : GG) : Launch := G.1
def gD (G : GG) : va_G := G.2.1
def gT (G : GG) : List (ClassId × FieldType) := G.2.2.1
def gB (G : GG) : Nat := G.2.2.2.1
def gA (G : GG) : Nat → Prop := fun q => gB G ≤ q
def gZ (G : GG) : List (String × String × String × Value) := G.2.2.2.2.1
def gS (G : GG) : List (FieldType × Nat × Nat × (Nat → Value)) := G.2.2.2.2.2.1
def gF (G : GG) : List (String × String × String × Value × Nat) := G.2.2.2.2.2.2.1
def gO (G : GG) : List (String × Nat) := G.2.2.2.2.2.2.2.1
def gR (G : GG) : List (String × Nat × String × Nat) := G.2.2.2.2.2.2.2.2
abbrev Mem : Type := List Nat × (Nat → va_E) × Nat
abbrev mpl (M : Mem) : va_W := va_pl M.1 M.2.1
def HM (G : GG) (M : Mem) (H : Heap) : Prop := H.size = M.2.2 ∧ va_P (gD G) vwCl (mpl M) H ∧ va_D (gA G) (mpl M)
def aoC : List String := ["LockSimulator$Strand", "LockSimulator$Lock", "LockSimulator$Kind", "LockSimulator$Slot"]
def KX (G : GG) (U : State) : Prop := va_K (gD G) vwCl (gT G) U ∧ (gB G ≤ U.heap.size) ∧ (∀ q ∈ gZ G, va_Z q.1 q.2.1 q.2.2.1 q.2.2.2 (gA G) U U.heap) ∧ (∀ q ∈ gS G, va_T q.1 q.2.1 q.2.2.1 q.2.2.2 (gA G) U U.heap) ∧ (∀ q ∈ gF G, va_OF q.1 q.2.1 q.2.2.1 q.2.2.2.1 q.2.2.2.2 (gA G) U U.heap) ∧ (∀ q ∈ gO G, va_O q.1 q.2 (gA G) U U.heap) ∧ (∀ q ∈ gR G, vk_R q.1 q.2.1 q.2.2.1 q.2.2.2 U) ∧ va_Nw nwF U ∧ va_Nw nwM U ∧ (∀ C ∈ aoC, va_AO C U) ∧ va_Nw (.castable "[B" "java/lang/Cloneable") U
theorem KX.go {G : GG} {s U : State} (h : KX G s) (hW : s.WarmedH U.vm) (hz : s.heap.size ≤ U.heap.size) (hq : ∀ a : Nat, a < s.heap.size → ¬ gA G a → U.heap[a]? = s.heap[a]?) : KX G U := by
  obtain ⟨h1, h0, h2, h3, h4, h5, h6, h7, h8, h9, h10⟩ := h
  have hv := hW.alike
  exact ⟨va_K.moved hv h1, Nat.le_trans h0 hz, fun q g => ((h2 q g).kept hq).moved hv, fun q g => ((h3 q g).kept hq).moved hv, fun q g => ((h4 q g).kept hq).moved hv, fun q g => ((h5 q g).kept hq).moved hv, fun q g => (h6 q g).warm hW, h7.warmF hW, h8.warmM hW, fun C g => (h9 C g).moved hv, h10.warmC hW⟩
theorem KX.blind {G : GG} {U : State} (g : JFrame) (mk : MethodId) (a : Array Value) (h : KX G U) : KX G (U.calling g mk a) :=
  KX.go (U := U.calling g mk a) h (State.WarmedH.refl U) (Nat.le_refl _) (fun _ _ _ => rfl)
def lc_ok (ls : Array Slot) (nL : Nat) (lc : List (Option Value)) : Prop := ls.size = nL ∧ lv_wf ls ∧ ∀ (i : Nat) (v : Value), lc[i]? = some (some v) → ls[i]? = some (.val v)
def rmO (d mc ms : Nat) : Room := { frames := d, cells := mc, slots := ms, locals := 40 * d }
def QQ (G : GG) (res : Option Value) (M' : Mem) : Array Value → State → Outcome → State → Prop := fun _ st oc t => oc = .returned res ∧ HM G M' t.heap ∧ va_F (gA G) st t
abbrev CX (G : GG) (own : String) (cc : ByteArray) (nL : Nat) (rt : Option FieldType) (ini : Bool) (p : Program) (s : State) (m : MethodId) (args : Array Value) (meth : Method) (c : Code) : Prop :=
  p.tables.exec = Jvm.exec ∧ c.code = cc ∧ c.maxLocals = nL ∧ meth.sig.returnType = rt ∧ meth.locks = false ∧ (ini = true → meth.name = "<init>") ∧ s.vm.findClass own = some m.cls ∧ (∀ w ∈ lw_g, w.before args s = true) ∧ KX G s
abbrev MI : Type := String × ByteArray × Nat × Option FieldType × Bool
/-- from pc, locals lc, stack st, memory M, with k cells and n slots made: the method ends with res and the memory M' -/
def WP (G : GG) (mi : MI) (d mc ms : Nat) (res : Option Value) (M' : Mem) (pc : Nat) (lc : List (Option Value)) (st : List Value) (M : Mem) (k n : Nat) : Prop :=
  ∀ (p : Program) (e : Env) (s : State) (m : MethodId) (args : Array Value) (below : List Frame) (meth : Method) (c : Code) (H : Heap) (locs : List Loc) (ls : Array Slot), CX G mi.1 mi.2.1 mi.2.2.1 mi.2.2.2.1 mi.2.2.2.2 p s m args meth c → HM G M H → va_S (gA G) s.heap H locs → lc_ok ls mi.2.2.1 lc →
    W p (gL G) e (rmO d mc ms) s m args below meth c H locs k n (MQ below (QQ G res M') args s mc ms (gA G)) (F0 m pc ls st)
def wsO (y : MethodName) (mi : MI) : List Cond := .code y mi.2.1 mi.2.2.1 mi.2.2.2.1 :: lw_g
/-- a method's contract -/
def Ct (G : GG) (d : Nat) (y : MethodName) (mi : MI) (as : List Value) (M : Mem) (mc ms : Nat) (res : Option Value) (M' : Mem) : Prop :=
  Met (gL G) y (wsO y mi) (rmO d mc ms) (va_Pc as (fun U => KX G U ∧ HM G M U.heap)) (QQ G res M') mc ms (gA G)
/-- the locals at a method's entry -/
def lc_ent : List Value → List (Option Value)
  | [] => []
  | v :: vs => if v.category = 2 then some v :: none :: lc_ent vs else some v :: lc_ent vs
theorem lc_ent_at (vs : List Value) : ∀ (i j : Nat) (v : Value), (lc_ent vs)[i]? = some (some v) → (j + i, v) ∈ lv_args j vs := by
  induction vs with
  | nil => intro i j v h; simp [lc_ent] at h
  | cons u us ih =>
    intro i j v h
    unfold lv_args
    by_cases hc : u.category = 2
    · simp only [lc_ent, hc, if_true] at h ⊢
      match i, h with
      | 0, h => simp at h; subst h; exact List.mem_cons_self
      | 1, h => simp at h
      | i + 2, h =>
        have := ih i (j + 2) v (by simpa using h)
        rw [show j + (i + 2) = j + 2 + i by omega]
        exact List.mem_cons_of_mem _ this
    · simp only [lc_ent, hc, if_false] at h ⊢
      match i, h with
      | 0, h => simp at h; subst h; exact List.mem_cons_self
      | i + 1, h =>
        have := ih i (j + 1) v (by simpa using h)
        rw [show j + (i + 1) = j + 1 + i by omega]
        exact List.mem_cons_of_mem _ this
theorem Ct.of {G : GG} {d : Nat} {y : MethodName} {mi : MI} {as : List Value} {M : Mem} {mc ms : Nat} {res : Option Value} {M' : Mem} (ex : Nat) (hy : plainName y.cls = true) (ho : mi.1 = y.cls) (hini : mi.2.2.2.2 = true → y.name = "<init>") (hlen : (lg_sl as).length ≤ mi.2.2.1)
    (h : WP G mi d mc ms res M' 0 (lc_ent as ++ List.replicate ex none) [] M 0 0) : Ct G d y mi as M mc ms res M' := by
  refine Met.ofW (cc := mi.2.1) (maxL := mi.2.2.1) (ret := mi.2.2.2.1) hy rfl ?_
  intro p e s m args below meth c s₁ B hml hv
  obtain ⟨rfl, hkx, hM⟩ := hv
  have hts : ∀ w ∈ lw_g, w.before as.toArray s = true := fun w hw => atoms_spec (ws := wsO y mi) B.pre w (List.mem_cons_of_mem _ hw)
  have hown : s.vm.findClass y.cls = some m.cls := findClass_of_methodNamed B.named
  have hin := (name_of_methodNamed B.named B.method).1
  have hl := lv_entry as (n := mi.2.2.1) hlen
  rw [lg_entry_eq]
  refine h p e s m as.toArray below meth c s.heap [] _ ⟨B.exec, B.bytes, hml, B.returns, B.notSynchronized, fun q => hin.trans (hini q), by rw [ho]; exact hown, hts, hkx⟩ hM va_S.rf ⟨hl.1, hl.2.1, fun i v hi => ?_⟩
  by_cases hlt : i < (lc_ent as).length
  · rw [List.getElem?_append_left hlt] at hi
    have := lc_ent_at as i 0 v hi
    rw [Nat.zero_add] at this
    exact hl.2.2 _ this
  · rw [List.getElem?_append_right (by omega)] at hi
    rw [List.getElem?_replicate] at hi
    split at hi <;> simp at hi
theorem mpl_get {M : Mem} {a : Nat} (h : a ∈ M.1) : ∃ k : Nat, (mpl M)[k]? = some (a, M.2.1 a) := va_pl_get (X := []) h
theorem mpl_set {A : Nat → Prop} {M : Mem} {a k : Nat} {e : va_E} (hD : va_D A (mpl M)) (h : a ∈ M.1) (hk : (mpl M)[k]? = some (a, M.2.1 a)) : (mpl M).set k (a, e) = mpl (M.1, va_up M.2.1 a e, M.2.2) := va_pl_set (X := []) hD h hk
section LC
variable {ls : Array Slot} {nL : Nat} {lc : List (Option Value)}
theorem lc_asc (h : lc_ok ls nL lc) : lv_has ls nL ((List.range lc.length).filterMap (fun i => (lc[i]?.getD none).map (fun v => (i, v)))) := by
  refine ⟨h.1, h.2.1, fun q hq => ?_⟩
  obtain ⟨i, -, hi⟩ := List.mem_filterMap.mp hq
  cases hx : lc[i]?.getD none with
  | none => rw [hx] at hi; simp at hi
  | some v =>
    rw [hx] at hi
    simp at hi
    subst hi
    refine h.2.2 i v ?_
    cases hy : lc[i]? with
    | none => rw [hy] at hx; simp at hx
    | some z => rw [hy] at hx; simp at hx; rw [hx]
/-- no long begins just ahead of place i -/
def lc_fr (lc : List (Option Value)) (i : Nat) : Bool := match i with
  | 0 => true
  | j + 1 => match lc[j]? with
    | some (some v) => v.category == 1
    | _ => true
theorem lc_put {ls' : Array Slot} {i : Nat} {v : Value} (hf : lc_fr lc i = true) (h' : lv_has ls' nL ((i, v) :: ((List.range lc.length).filterMap (fun i => (lc[i]?.getD none).map (fun v => (i, v)))).filter (fun q => !(q.1 == i) && !(q.1 + 1 == i && q.2.category == 2)))) : lc_ok ls' nL (lc.set i (some v)) := by
  refine ⟨h'.1, h'.2.1, fun j u hj => ?_⟩
  by_cases hij : j = i
  · subst hij
    have hlt : j < lc.length := by
      have := (List.getElem?_eq_some_iff.mp hj).1
      simpa using this
    rw [List.getElem?_set_self hlt] at hj
    cases hj
    exact h'.2.2 (j, v) List.mem_cons_self
  · rw [List.getElem?_set_ne (fun e => hij e.symm)] at hj
    refine h'.2.2 (j, u) (List.mem_cons_of_mem _ (List.mem_filter.mpr ⟨List.mem_filterMap.mpr ⟨j, List.mem_range.mpr (List.getElem?_eq_some_iff.mp hj).1, by rw [hj]; rfl⟩, ?_⟩))
    have h1 : (j == i) = false := by simp [hij]
    simp only [h1, Bool.not_false, Bool.true_and, Bool.not_eq_true', Bool.and_eq_false_iff]
    by_cases h2 : j + 1 = i
    · right
      subst h2
      simp only [lc_fr, hj] at hf
      have : u.category = 1 := by simpa using hf
      simp [this]
    · left
      simp [h2]
theorem lc_get (h : lc_ok ls nL lc) {i : Nat} {v : Value} (hi : lc[i]? = some (some v)) : ls[i]? = some (.val v) := h.2.2 i v hi
end LC
end
section
section IINC
variable {p : Program} {l : Launch} {e : Env} {R : Room} {s : State} {m : MethodId} {args : Array Value} {below : List Frame} {meth : Method} {c : Code} {H : Heap} {locs : List Loc} {cells slots : Nat} {Q : State → Prop} {cc : ByteArray} {pc : Nat} {ls : Array Slot} {rest : List Value}
theorem lv_iinc' (hexec : p.tables.exec = Jvm.exec) (hb : c.code = cc) {i nL : Nat} {z : Int} {x : Int32} {lv : List (Nat × Value)} (hdg : decode cc pc = .ok (.iinc i z, 3)) (h : lv_has ls nL lv) (hk : (i, Value.int x) ∈ lv) (hn : i < nL)
    (kk : ∀ ls', lv_has ls' nL ((i, Value.int (x + Int32.ofInt z)) :: lv.filter (fun q => !(q.1 == i) && !(q.1 + 1 == i && q.2.category == 2))) → W p l e R s m args below meth c H locs cells slots Q (F0 m (pc + 3) ls' rest)) : W p l e R s m args below meth c H locs cells slots Q (F0 m pc ls rest) := by
  obtain ⟨k, hk⟩ := List.getElem?_of_mem hk
  exact lv_iinc hexec hb hdg h hk rfl hn rfl kk
end IINC
section WPR
variable {G : GG} {mi : MI} {d mc ms : Nat} {res : Option Value} {M' : Mem} {pc : Nat} {lc : List (Option Value)} {st : List Value} {M : Mem} {k n : Nat}
theorem wp_iconst {z : Int} {v : Int32} (hd : decode mi.2.1 pc = .ok (.iconst z, 1)) (hv : Int32.ofInt z = v) (kk : WP G mi d mc ms res M' (pc + 1) lc (.int v :: st) M k n) : WP G mi d mc ms res M' pc lc (st) M k n := fun p e s m args below meth c H locs ls hc hM hS hl => lv_iconst hc.1 hc.2.1 hd hv (kk p e s m args below meth c H locs ls hc hM hS hl)
theorem wp_bipush {z : Int} {v : Int32} (hd : decode mi.2.1 pc = .ok (.bipush z, 2)) (hv : (Int8.ofInt z).toInt32 = v) (kk : WP G mi d mc ms res M' (pc + 2) lc (.int v :: st) M k n) : WP G mi d mc ms res M' pc lc (st) M k n := fun p e s m args below meth c H locs ls hc hM hS hl => lv_bipush hc.1 hc.2.1 hd hv (kk p e s m args below meth c H locs ls hc hM hS hl)
theorem wp_sipush {z : Int} {v : Int32} (hd : decode mi.2.1 pc = .ok (.sipush z, 3)) (hv : (Int16.ofInt z).toInt32 = v) (kk : WP G mi d mc ms res M' (pc + 3) lc (.int v :: st) M k n) : WP G mi d mc ms res M' pc lc (st) M k n := fun p e s m args below meth c H locs ls hc hM hS hl => lv_sipush hc.1 hc.2.1 hd hv (kk p e s m args below meth c H locs ls hc hM hS hl)
theorem wp_ldc {idx : Nat} {v : Int32} (hd : decode mi.2.1 pc = .ok (.ldc idx, 2)) (hw : Cond.constant mi.1 idx v ∈ lw_g) (kk : WP G mi d mc ms res M' (pc + 2) lc (.int v :: st) M k n) : WP G mi d mc ms res M' pc lc (st) M k n := fun p e s m args below meth c H locs ls hc hM hS hl => lv_ldc hc.1 hc.2.1 hc.2.2.2.2.2.2.1 (hc.2.2.2.2.2.2.2.1 _ hw) hd (kk p e s m args below meth c H locs ls hc hM hS hl)
theorem wp_ldc2 {idx : Nat} {v : Int64} (hd : decode mi.2.1 pc = .ok (.ldc2_w idx, 3)) (hw : Cond.constantLong mi.1 idx v ∈ lw_g) (kk : WP G mi d mc ms res M' (pc + 3) lc (.long v :: st) M k n) : WP G mi d mc ms res M' pc lc (st) M k n := fun p e s m args below meth c H locs ls hc hM hS hl => lv_ldc2 hc.1 hc.2.1 hc.2.2.2.2.2.2.1 (hc.2.2.2.2.2.2.2.1 _ hw) hd (kk p e s m args below meth c H locs ls hc hM hS hl)
theorem wp_ldcS {idx a : Nat} {tx : String} (hd : decode mi.2.1 pc = .ok (.ldc idx, 2)) (hw : (mi.1, idx, tx, a) ∈ gR G) (kk : WP G mi d mc ms res M' (pc + 2) lc (.ref a :: st) M k n) : WP G mi d mc ms res M' pc lc (st) M k n := fun p e s m args below meth c H locs ls hc hM hS hl => va_ldcS hc.1 hc.2.1 hc.2.2.2.2.2.2.1 (hc.2.2.2.2.2.2.2.2.2.2.2.2.2.2.1 _ hw) hd (kk p e s m args below meth c H locs ls hc hM hS hl)
theorem wp_null  (hd : decode mi.2.1 pc = .ok (.aconst_null, 1))  (kk : WP G mi d mc ms res M' (pc + 1) lc (.null :: st) M k n) : WP G mi d mc ms res M' pc lc (st) M k n := fun p e s m args below meth c H locs ls hc hM hS hl => lv_null hc.1 hc.2.1 hd (kk p e s m args below meth c H locs ls hc hM hS hl)
theorem wp_iadd {x y : Int32} (hd : decode mi.2.1 pc = .ok (.iadd, 1))  (kk : WP G mi d mc ms res M' (pc + 1) lc (.int (x + y) :: st) M k n) : WP G mi d mc ms res M' pc lc (.int y :: .int x :: st) M k n := fun p e s m args below meth c H locs ls hc hM hS hl => lv_iadd hc.1 hc.2.1 hd (kk p e s m args below meth c H locs ls hc hM hS hl)
theorem wp_isub {x y : Int32} (hd : decode mi.2.1 pc = .ok (.isub, 1))  (kk : WP G mi d mc ms res M' (pc + 1) lc (.int (x - y) :: st) M k n) : WP G mi d mc ms res M' pc lc (.int y :: .int x :: st) M k n := fun p e s m args below meth c H locs ls hc hM hS hl => lv_isub hc.1 hc.2.1 hd (kk p e s m args below meth c H locs ls hc hM hS hl)
theorem wp_imul {x y : Int32} (hd : decode mi.2.1 pc = .ok (.imul, 1))  (kk : WP G mi d mc ms res M' (pc + 1) lc (.int (x * y) :: st) M k n) : WP G mi d mc ms res M' pc lc (.int y :: .int x :: st) M k n := fun p e s m args below meth c H locs ls hc hM hS hl => lv_imul hc.1 hc.2.1 hd (kk p e s m args below meth c H locs ls hc hM hS hl)
theorem wp_iand {x y : Int32} (hd : decode mi.2.1 pc = .ok (.iand, 1))  (kk : WP G mi d mc ms res M' (pc + 1) lc (.int (x &&& y) :: st) M k n) : WP G mi d mc ms res M' pc lc (.int y :: .int x :: st) M k n := fun p e s m args below meth c H locs ls hc hM hS hl => lv_iand hc.1 hc.2.1 hd (kk p e s m args below meth c H locs ls hc hM hS hl)
theorem wp_ior {x y : Int32} (hd : decode mi.2.1 pc = .ok (.ior, 1))  (kk : WP G mi d mc ms res M' (pc + 1) lc (.int (x ||| y) :: st) M k n) : WP G mi d mc ms res M' pc lc (.int y :: .int x :: st) M k n := fun p e s m args below meth c H locs ls hc hM hS hl => lv_ior hc.1 hc.2.1 hd (kk p e s m args below meth c H locs ls hc hM hS hl)
theorem wp_ishl {x y : Int32} (hd : decode mi.2.1 pc = .ok (.ishl, 1))  (kk : WP G mi d mc ms res M' (pc + 1) lc (.int (x <<< (y &&& 31)) :: st) M k n) : WP G mi d mc ms res M' pc lc (.int y :: .int x :: st) M k n := fun p e s m args below meth c H locs ls hc hM hS hl => lv_ishl hc.1 hc.2.1 hd (kk p e s m args below meth c H locs ls hc hM hS hl)
theorem wp_ishr {x y : Int32} (hd : decode mi.2.1 pc = .ok (.ishr, 1))  (kk : WP G mi d mc ms res M' (pc + 1) lc (.int (x >>> (y &&& 31)) :: st) M k n) : WP G mi d mc ms res M' pc lc (.int y :: .int x :: st) M k n := fun p e s m args below meth c H locs ls hc hM hS hl => lv_ishr hc.1 hc.2.1 hd (kk p e s m args below meth c H locs ls hc hM hS hl)
theorem wp_idiv {x y : Int32} (hd : decode mi.2.1 pc = .ok (.idiv, 1)) (hne : ¬ y = 0) (kk : WP G mi d mc ms res M' (pc + 1) lc (.int (x / y) :: st) M k n) : WP G mi d mc ms res M' pc lc (.int y :: .int x :: st) M k n := fun p e s m args below meth c H locs ls hc hM hS hl => lv_idiv hc.1 hc.2.1 hd hne (kk p e s m args below meth c H locs ls hc hM hS hl)
theorem wp_irem {x y : Int32} (hd : decode mi.2.1 pc = .ok (.irem, 1)) (hne : ¬ y = 0) (kk : WP G mi d mc ms res M' (pc + 1) lc (.int (x - x / y * y) :: st) M k n) : WP G mi d mc ms res M' pc lc (.int y :: .int x :: st) M k n := fun p e s m args below meth c H locs ls hc hM hS hl => lv_irem hc.1 hc.2.1 hd hne (kk p e s m args below meth c H locs ls hc hM hS hl)
theorem wp_ineg {x : Int32} (hd : decode mi.2.1 pc = .ok (.ineg, 1))  (kk : WP G mi d mc ms res M' (pc + 1) lc (.int (-x) :: st) M k n) : WP G mi d mc ms res M' pc lc (.int x :: st) M k n := fun p e s m args below meth c H locs ls hc hM hS hl => lv_ineg hc.1 hc.2.1 hd (kk p e s m args below meth c H locs ls hc hM hS hl)
theorem wp_lshr {x : Int64} {y : Int32} (hd : decode mi.2.1 pc = .ok (.lshr, 1))  (kk : WP G mi d mc ms res M' (pc + 1) lc (.long (x >>> (y.toInt64 &&& 63)) :: st) M k n) : WP G mi d mc ms res M' pc lc (.int y :: .long x :: st) M k n := fun p e s m args below meth c H locs ls hc hM hS hl => lv_lshr hc.1 hc.2.1 hd rfl (kk p e s m args below meth c H locs ls hc hM hS hl)
theorem wp_land {x y : Int64} (hd : decode mi.2.1 pc = .ok (.land, 1))  (kk : WP G mi d mc ms res M' (pc + 1) lc (.long (x &&& y) :: st) M k n) : WP G mi d mc ms res M' pc lc (.long y :: .long x :: st) M k n := fun p e s m args below meth c H locs ls hc hM hS hl => lv_land hc.1 hc.2.1 hd (kk p e s m args below meth c H locs ls hc hM hS hl)
theorem wp_l2i {x : Int64} (hd : decode mi.2.1 pc = .ok (.l2i, 1))  (kk : WP G mi d mc ms res M' (pc + 1) lc (.int x.toInt32 :: st) M k n) : WP G mi d mc ms res M' pc lc (.long x :: st) M k n := fun p e s m args below meth c H locs ls hc hM hS hl => lv_l2i hc.1 hc.2.1 hd rfl (kk p e s m args below meth c H locs ls hc hM hS hl)
theorem wp_i2c {x : Int32} (hd : decode mi.2.1 pc = .ok (.i2c, 1))  (kk : WP G mi d mc ms res M' (pc + 1) lc (.int (x.toUInt32 % 65536).toInt32 :: st) M k n) : WP G mi d mc ms res M' pc lc (.int x :: st) M k n := fun p e s m args below meth c H locs ls hc hM hS hl => lv_i2c hc.1 hc.2.1 hd rfl (kk p e s m args below meth c H locs ls hc hM hS hl)
theorem wp_i2b {x : Int32} (hd : decode mi.2.1 pc = .ok (.i2b, 1))  (kk : WP G mi d mc ms res M' (pc + 1) lc (.int x.toInt8.toInt32 :: st) M k n) : WP G mi d mc ms res M' pc lc (.int x :: st) M k n := fun p e s m args below meth c H locs ls hc hM hS hl => lv_i2b hc.1 hc.2.1 hd rfl (kk p e s m args below meth c H locs ls hc hM hS hl)
theorem wp_dup {va : Value} (hd : decode mi.2.1 pc = .ok (.dup, 1)) (hva : va.category = 1) (kk : WP G mi d mc ms res M' (pc + 1) lc (va :: va :: st) M k n) : WP G mi d mc ms res M' pc lc (va :: st) M k n := fun p e s m args below meth c H locs ls hc hM hS hl => lv_dup hc.1 hc.2.1 hd hva (kk p e s m args below meth c H locs ls hc hM hS hl)
theorem wp_pop {va : Value} (hd : decode mi.2.1 pc = .ok (.pop, 1)) (hva : va.category = 1) (kk : WP G mi d mc ms res M' (pc + 1) lc (st) M k n) : WP G mi d mc ms res M' pc lc (va :: st) M k n := fun p e s m args below meth c H locs ls hc hM hS hl => lv_pop hc.1 hc.2.1 hd hva (kk p e s m args below meth c H locs ls hc hM hS hl)
theorem wp_dup2 {va vb : Value} (hd : decode mi.2.1 pc = .ok (.dup2, 1)) (hva : va.category = 1) (hvb : vb.category = 1) (kk : WP G mi d mc ms res M' (pc + 1) lc (va :: vb :: va :: vb :: st) M k n) : WP G mi d mc ms res M' pc lc (va :: vb :: st) M k n := fun p e s m args below meth c H locs ls hc hM hS hl => lv_dup2_11 hc.1 hc.2.1 hd hva hvb (kk p e s m args below meth c H locs ls hc hM hS hl)
theorem wp_dup_x1 {va vb : Value} (hd : decode mi.2.1 pc = .ok (.dup_x1, 1)) (hva : va.category = 1) (hvb : vb.category = 1) (kk : WP G mi d mc ms res M' (pc + 1) lc (va :: vb :: va :: st) M k n) : WP G mi d mc ms res M' pc lc (va :: vb :: st) M k n := fun p e s m args below meth c H locs ls hc hM hS hl => lv_dup_x1 hc.1 hc.2.1 hd hva hvb (kk p e s m args below meth c H locs ls hc hM hS hl)
theorem wp_if_eq {x : Int32} {off : Int} {tgt : Nat} (hd : decode mi.2.1 pc = .ok (.ifCond .eq off, 3)) (ht : (pc : Int) + off = (tgt : Int)) (kt : x = 0 → WP G mi d mc ms res M' tgt lc st M k n) (kf : ¬ x = 0 → WP G mi d mc ms res M' (pc + 3) lc st M k n) : WP G mi d mc ms res M' pc lc (.int x :: st) M k n := fun p e s m args below meth c H locs ls hc hM hS hl => lv_if_eq hc.1 hc.2.1 hd ht (fun h => kt h p e s m args below meth c H locs ls hc hM hS hl) (fun h => kf h p e s m args below meth c H locs ls hc hM hS hl)
theorem wp_icmp_eq {x y : Int32} {off : Int} {tgt : Nat} (hd : decode mi.2.1 pc = .ok (.if_icmp .eq off, 3)) (ht : (pc : Int) + off = (tgt : Int)) (kt : x = y → WP G mi d mc ms res M' tgt lc st M k n) (kf : ¬ x = y → WP G mi d mc ms res M' (pc + 3) lc st M k n) : WP G mi d mc ms res M' pc lc (.int y :: .int x :: st) M k n := fun p e s m args below meth c H locs ls hc hM hS hl => lv_icmp_eq hc.1 hc.2.1 hd ht (fun h => kt h p e s m args below meth c H locs ls hc hM hS hl) (fun h => kf h p e s m args below meth c H locs ls hc hM hS hl)
theorem wp_if_ne {x : Int32} {off : Int} {tgt : Nat} (hd : decode mi.2.1 pc = .ok (.ifCond .ne off, 3)) (ht : (pc : Int) + off = (tgt : Int)) (kt : ¬ x = 0 → WP G mi d mc ms res M' tgt lc st M k n) (kf : x = 0 → WP G mi d mc ms res M' (pc + 3) lc st M k n) : WP G mi d mc ms res M' pc lc (.int x :: st) M k n := fun p e s m args below meth c H locs ls hc hM hS hl => lv_if_ne hc.1 hc.2.1 hd ht (fun h => kt h p e s m args below meth c H locs ls hc hM hS hl) (fun h => kf h p e s m args below meth c H locs ls hc hM hS hl)
theorem wp_icmp_ne {x y : Int32} {off : Int} {tgt : Nat} (hd : decode mi.2.1 pc = .ok (.if_icmp .ne off, 3)) (ht : (pc : Int) + off = (tgt : Int)) (kt : ¬ x = y → WP G mi d mc ms res M' tgt lc st M k n) (kf : x = y → WP G mi d mc ms res M' (pc + 3) lc st M k n) : WP G mi d mc ms res M' pc lc (.int y :: .int x :: st) M k n := fun p e s m args below meth c H locs ls hc hM hS hl => lv_icmp_ne hc.1 hc.2.1 hd ht (fun h => kt h p e s m args below meth c H locs ls hc hM hS hl) (fun h => kf h p e s m args below meth c H locs ls hc hM hS hl)
theorem wp_if_lt {x : Int32} {off : Int} {tgt : Nat} (hd : decode mi.2.1 pc = .ok (.ifCond .lt off, 3)) (ht : (pc : Int) + off = (tgt : Int)) (kt : x < 0 → WP G mi d mc ms res M' tgt lc st M k n) (kf : ¬ x < 0 → WP G mi d mc ms res M' (pc + 3) lc st M k n) : WP G mi d mc ms res M' pc lc (.int x :: st) M k n := fun p e s m args below meth c H locs ls hc hM hS hl => lv_if_lt hc.1 hc.2.1 hd ht (fun h => kt h p e s m args below meth c H locs ls hc hM hS hl) (fun h => kf h p e s m args below meth c H locs ls hc hM hS hl)
theorem wp_icmp_lt {x y : Int32} {off : Int} {tgt : Nat} (hd : decode mi.2.1 pc = .ok (.if_icmp .lt off, 3)) (ht : (pc : Int) + off = (tgt : Int)) (kt : x < y → WP G mi d mc ms res M' tgt lc st M k n) (kf : ¬ x < y → WP G mi d mc ms res M' (pc + 3) lc st M k n) : WP G mi d mc ms res M' pc lc (.int y :: .int x :: st) M k n := fun p e s m args below meth c H locs ls hc hM hS hl => lv_icmp_lt hc.1 hc.2.1 hd ht (fun h => kt h p e s m args below meth c H locs ls hc hM hS hl) (fun h => kf h p e s m args below meth c H locs ls hc hM hS hl)
theorem wp_if_ge {x : Int32} {off : Int} {tgt : Nat} (hd : decode mi.2.1 pc = .ok (.ifCond .ge off, 3)) (ht : (pc : Int) + off = (tgt : Int)) (kt : 0 ≤ x → WP G mi d mc ms res M' tgt lc st M k n) (kf : ¬ 0 ≤ x → WP G mi d mc ms res M' (pc + 3) lc st M k n) : WP G mi d mc ms res M' pc lc (.int x :: st) M k n := fun p e s m args below meth c H locs ls hc hM hS hl => lv_if_ge hc.1 hc.2.1 hd ht (fun h => kt h p e s m args below meth c H locs ls hc hM hS hl) (fun h => kf h p e s m args below meth c H locs ls hc hM hS hl)
theorem wp_icmp_ge {x y : Int32} {off : Int} {tgt : Nat} (hd : decode mi.2.1 pc = .ok (.if_icmp .ge off, 3)) (ht : (pc : Int) + off = (tgt : Int)) (kt : y ≤ x → WP G mi d mc ms res M' tgt lc st M k n) (kf : ¬ y ≤ x → WP G mi d mc ms res M' (pc + 3) lc st M k n) : WP G mi d mc ms res M' pc lc (.int y :: .int x :: st) M k n := fun p e s m args below meth c H locs ls hc hM hS hl => lv_icmp_ge hc.1 hc.2.1 hd ht (fun h => kt h p e s m args below meth c H locs ls hc hM hS hl) (fun h => kf h p e s m args below meth c H locs ls hc hM hS hl)
theorem wp_if_gt {x : Int32} {off : Int} {tgt : Nat} (hd : decode mi.2.1 pc = .ok (.ifCond .gt off, 3)) (ht : (pc : Int) + off = (tgt : Int)) (kt : 0 < x → WP G mi d mc ms res M' tgt lc st M k n) (kf : ¬ 0 < x → WP G mi d mc ms res M' (pc + 3) lc st M k n) : WP G mi d mc ms res M' pc lc (.int x :: st) M k n := fun p e s m args below meth c H locs ls hc hM hS hl => lv_if_gt hc.1 hc.2.1 hd ht (fun h => kt h p e s m args below meth c H locs ls hc hM hS hl) (fun h => kf h p e s m args below meth c H locs ls hc hM hS hl)
theorem wp_icmp_gt {x y : Int32} {off : Int} {tgt : Nat} (hd : decode mi.2.1 pc = .ok (.if_icmp .gt off, 3)) (ht : (pc : Int) + off = (tgt : Int)) (kt : y < x → WP G mi d mc ms res M' tgt lc st M k n) (kf : ¬ y < x → WP G mi d mc ms res M' (pc + 3) lc st M k n) : WP G mi d mc ms res M' pc lc (.int y :: .int x :: st) M k n := fun p e s m args below meth c H locs ls hc hM hS hl => lv_icmp_gt hc.1 hc.2.1 hd ht (fun h => kt h p e s m args below meth c H locs ls hc hM hS hl) (fun h => kf h p e s m args below meth c H locs ls hc hM hS hl)
theorem wp_if_le {x : Int32} {off : Int} {tgt : Nat} (hd : decode mi.2.1 pc = .ok (.ifCond .le off, 3)) (ht : (pc : Int) + off = (tgt : Int)) (kt : x ≤ 0 → WP G mi d mc ms res M' tgt lc st M k n) (kf : ¬ x ≤ 0 → WP G mi d mc ms res M' (pc + 3) lc st M k n) : WP G mi d mc ms res M' pc lc (.int x :: st) M k n := fun p e s m args below meth c H locs ls hc hM hS hl => lv_if_le hc.1 hc.2.1 hd ht (fun h => kt h p e s m args below meth c H locs ls hc hM hS hl) (fun h => kf h p e s m args below meth c H locs ls hc hM hS hl)
theorem wp_icmp_le {x y : Int32} {off : Int} {tgt : Nat} (hd : decode mi.2.1 pc = .ok (.if_icmp .le off, 3)) (ht : (pc : Int) + off = (tgt : Int)) (kt : x ≤ y → WP G mi d mc ms res M' tgt lc st M k n) (kf : ¬ x ≤ y → WP G mi d mc ms res M' (pc + 3) lc st M k n) : WP G mi d mc ms res M' pc lc (.int y :: .int x :: st) M k n := fun p e s m args below meth c H locs ls hc hM hS hl => lv_icmp_le hc.1 hc.2.1 hd ht (fun h => kt h p e s m args below meth c H locs ls hc hM hS hl) (fun h => kf h p e s m args below meth c H locs ls hc hM hS hl)
theorem wp_goto {off : Int} {tgt : Nat} (hd : decode mi.2.1 pc = .ok (.goto off, 3)) (ht : (pc : Int) + off = (tgt : Int)) (kk : WP G mi d mc ms res M' tgt lc st M k n) : WP G mi d mc ms res M' pc lc (st) M k n := fun p e s m args below meth c H locs ls hc hM hS hl => lv_goto hc.1 hc.2.1 hd ht (kk p e s m args below meth c H locs ls hc hM hS hl)
theorem wp_ifnonnull {x : Nat} {off : Int} {tgt : Nat} (hd : decode mi.2.1 pc = .ok (.ifnonnull off, 3)) (ht : (pc : Int) + off = (tgt : Int)) (kk : WP G mi d mc ms res M' tgt lc st M k n) : WP G mi d mc ms res M' pc lc (.ref x :: st) M k n := fun p e s m args below meth c H locs ls hc hM hS hl => lv_ifnonnull hc.1 hc.2.1 hd ht (kk p e s m args below meth c H locs ls hc hM hS hl)
theorem wp_ifnull {x : Nat} {off : Int} (hd : decode mi.2.1 pc = .ok (.ifnull off, 3))  (kk : WP G mi d mc ms res M' (pc + 3) lc st M k n) : WP G mi d mc ms res M' pc lc (.ref x :: st) M k n := fun p e s m args below meth c H locs ls hc hM hS hl => lv_ifnull hc.1 hc.2.1 hd (kk p e s m args below meth c H locs ls hc hM hS hl)
theorem wp_ifnullN {off : Int} {tgt : Nat} (hd : decode mi.2.1 pc = .ok (.ifnull off, 3)) (ht : (pc : Int) + off = (tgt : Int)) (kk : WP G mi d mc ms res M' tgt lc st M k n) : WP G mi d mc ms res M' pc lc (.null :: st) M k n := fun p e s m args below meth c H locs ls hc hM hS hl => lv_ifnullN hc.1 hc.2.1 hd ht (kk p e s m args below meth c H locs ls hc hM hS hl)
theorem wp_ifnonnullN {off : Int} (hd : decode mi.2.1 pc = .ok (.ifnonnull off, 3))  (kk : WP G mi d mc ms res M' (pc + 3) lc st M k n) : WP G mi d mc ms res M' pc lc (.null :: st) M k n := fun p e s m args below meth c H locs ls hc hM hS hl => lv_ifnonnullN hc.1 hc.2.1 hd (kk p e s m args below meth c H locs ls hc hM hS hl)
theorem wp_tableOut {dflt lo hi : Int} {offs : Array Int} {len : Nat} {x : Int32} {tgt : Nat} (hd : decode mi.2.1 pc = .ok (.tableswitch dflt lo hi offs, len)) (h : x.toInt < lo ∨ hi < x.toInt) (ht : (pc : Int) + dflt = (tgt : Int)) (kk : WP G mi d mc ms res M' tgt lc st M k n) : WP G mi d mc ms res M' pc lc (.int x :: st) M k n := fun p e s m args below meth c H locs ls hc hM hS hl => lv_tableOut hc.1 hc.2.1 hd h ht (kk p e s m args below meth c H locs ls hc hM hS hl)
theorem wp_tableIn {dflt lo hi : Int} {offs : Array Int} {len : Nat} {x : Int32} {off : Int} {tgt : Nat} (hd : decode mi.2.1 pc = .ok (.tableswitch dflt lo hi offs, len)) (h1 : ¬ x.toInt < lo) (h2 : ¬ hi < x.toInt) (ho : offs[(x.toInt - lo).toNat]? = some off) (ht : (pc : Int) + off = (tgt : Int)) (kk : WP G mi d mc ms res M' tgt lc st M k n) : WP G mi d mc ms res M' pc lc (.int x :: st) M k n := fun p e s m args below meth c H locs ls hc hM hS hl => lv_tableIn hc.1 hc.2.1 hd h1 h2 ho ht (kk p e s m args below meth c H locs ls hc hM hS hl)
theorem wp_lookup {dflt : Int} {ps : Array (Int × Int)} {len : Nat} {x : Int32} {off : Int} {tgt : Nat} (hd : decode mi.2.1 pc = .ok (.lookupswitch dflt ps, len)) (hp : (ps.toList.zip (ps.toList.drop 1)).all (fun (a, next) => a.1 < next.1) = true) (ho : Op.lookupswitch.offset ps.toList dflt x.toInt = off) (ht : (pc : Int) + off = (tgt : Int)) (kk : WP G mi d mc ms res M' tgt lc st M k n) : WP G mi d mc ms res M' pc lc (.int x :: st) M k n := fun p e s m args below meth c H locs ls hc hM hS hl => lv_lookup hc.1 hc.2.1 hd hp ho ht (kk p e s m args below meth c H locs ls hc hM hS hl)
theorem wp_ild0 {r : List (Option Value)} {x : Int32} (hd : decode mi.2.1 pc = .ok (.iload_n 0, 1)) (kk : WP G mi d mc ms res M' (pc + 1) (some (.int x) :: r) (.int x :: st) M k n) : WP G mi d mc ms res M' pc (some (.int x) :: r) st M k n := fun p e s m args below meth c H locs ls hc hM hS hl => lv_iload_n hc.1 hc.2.1 hd rfl (lc_get hl rfl) (kk p e s m args below meth c H locs ls hc hM hS hl)
theorem wp_ald0 {r : List (Option Value)} {x : Nat} (hd : decode mi.2.1 pc = .ok (.aload_n 0, 1)) (kk : WP G mi d mc ms res M' (pc + 1) (some (.ref x) :: r) (.ref x :: st) M k n) : WP G mi d mc ms res M' pc (some (.ref x) :: r) st M k n := fun p e s m args below meth c H locs ls hc hM hS hl => lv_aload_n hc.1 hc.2.1 hd rfl (lc_get hl rfl) (kk p e s m args below meth c H locs ls hc hM hS hl)
theorem wp_aldN0 {r : List (Option Value)}  (hd : decode mi.2.1 pc = .ok (.aload_n 0, 1)) (kk : WP G mi d mc ms res M' (pc + 1) (some (.null) :: r) (.null :: st) M k n) : WP G mi d mc ms res M' pc (some (.null) :: r) st M k n := fun p e s m args below meth c H locs ls hc hM hS hl => lv_aload_nN hc.1 hc.2.1 hd rfl (lc_get hl rfl) (kk p e s m args below meth c H locs ls hc hM hS hl)
theorem wp_lld0 {r : List (Option Value)} {x : Int64} (hd : decode mi.2.1 pc = .ok (.lload_n 0, 1)) (kk : WP G mi d mc ms res M' (pc + 1) (some (.long x) :: r) (.long x :: st) M k n) : WP G mi d mc ms res M' pc (some (.long x) :: r) st M k n := fun p e s m args below meth c H locs ls hc hM hS hl => lv_lload_n hc.1 hc.2.1 hd rfl (lc_get hl rfl) (kk p e s m args below meth c H locs ls hc hM hS hl)
theorem wp_ist0 {o : Option Value} {r : List (Option Value)} {x : Int32} (hd : decode mi.2.1 pc = .ok (.istore_n 0, 1)) (hn : 0 < mi.2.2.1) (hf : lc_fr (o :: r) 0 = true) (kk : WP G mi d mc ms res M' (pc + 1) (some (.int x) :: r) st M k n) : WP G mi d mc ms res M' pc (o :: r) (.int x :: st) M k n := fun p e s m args below meth c H locs ls hc hM hS hl => lv_istore_n hc.1 hc.2.1 hd rfl (lc_asc hl) hn rfl (fun ls hl2 => kk p e s m args below meth c H locs ls hc hM hS (lc_put hf hl2))
theorem wp_ast0 {o : Option Value} {r : List (Option Value)} {x : Nat} (hd : decode mi.2.1 pc = .ok (.astore_n 0, 1)) (hn : 0 < mi.2.2.1) (hf : lc_fr (o :: r) 0 = true) (kk : WP G mi d mc ms res M' (pc + 1) (some (.ref x) :: r) st M k n) : WP G mi d mc ms res M' pc (o :: r) (.ref x :: st) M k n := fun p e s m args below meth c H locs ls hc hM hS hl => lv_astore_n hc.1 hc.2.1 hd rfl (lc_asc hl) hn rfl (fun ls hl2 => kk p e s m args below meth c H locs ls hc hM hS (lc_put hf hl2))
theorem wp_astN0 {o : Option Value} {r : List (Option Value)}  (hd : decode mi.2.1 pc = .ok (.astore_n 0, 1)) (hn : 0 < mi.2.2.1) (hf : lc_fr (o :: r) 0 = true) (kk : WP G mi d mc ms res M' (pc + 1) (some (.null) :: r) st M k n) : WP G mi d mc ms res M' pc (o :: r) (.null :: st) M k n := fun p e s m args below meth c H locs ls hc hM hS hl => lv_astore_nN hc.1 hc.2.1 hd rfl (lc_asc hl) hn rfl (fun ls hl2 => kk p e s m args below meth c H locs ls hc hM hS (lc_put hf hl2))
theorem wp_iinc0 {r : List (Option Value)} {x : Int32} {z : Int} (hd : decode mi.2.1 pc = .ok (.iinc 0 z, 3)) (hn : 0 < mi.2.2.1) (hf : lc_fr (some (.int x) :: r) 0 = true) (kk : WP G mi d mc ms res M' (pc + 3) (some (.int (x + Int32.ofInt z)) :: r) st M k n) : WP G mi d mc ms res M' pc (some (.int x) :: r) st M k n := fun p e s m args below meth c H locs ls hc hM hS hl => lv_iinc' hc.1 hc.2.1 hd (lc_asc hl) (List.mem_filterMap.mpr ⟨0, List.mem_range.mpr (by simp), rfl⟩) hn (fun ls hl2 => kk p e s m args below meth c H locs ls hc hM hS (lc_put hf hl2))
theorem wp_ild1 {v0 : Option Value} {r : List (Option Value)} {x : Int32} (hd : decode mi.2.1 pc = .ok (.iload_n 1, 1)) (kk : WP G mi d mc ms res M' (pc + 1) (v0 :: some (.int x) :: r) (.int x :: st) M k n) : WP G mi d mc ms res M' pc (v0 :: some (.int x) :: r) st M k n := fun p e s m args below meth c H locs ls hc hM hS hl => lv_iload_n hc.1 hc.2.1 hd rfl (lc_get hl rfl) (kk p e s m args below meth c H locs ls hc hM hS hl)
theorem wp_ald1 {v0 : Option Value} {r : List (Option Value)} {x : Nat} (hd : decode mi.2.1 pc = .ok (.aload_n 1, 1)) (kk : WP G mi d mc ms res M' (pc + 1) (v0 :: some (.ref x) :: r) (.ref x :: st) M k n) : WP G mi d mc ms res M' pc (v0 :: some (.ref x) :: r) st M k n := fun p e s m args below meth c H locs ls hc hM hS hl => lv_aload_n hc.1 hc.2.1 hd rfl (lc_get hl rfl) (kk p e s m args below meth c H locs ls hc hM hS hl)
theorem wp_aldN1 {v0 : Option Value} {r : List (Option Value)}  (hd : decode mi.2.1 pc = .ok (.aload_n 1, 1)) (kk : WP G mi d mc ms res M' (pc + 1) (v0 :: some (.null) :: r) (.null :: st) M k n) : WP G mi d mc ms res M' pc (v0 :: some (.null) :: r) st M k n := fun p e s m args below meth c H locs ls hc hM hS hl => lv_aload_nN hc.1 hc.2.1 hd rfl (lc_get hl rfl) (kk p e s m args below meth c H locs ls hc hM hS hl)
theorem wp_lld1 {v0 : Option Value} {r : List (Option Value)} {x : Int64} (hd : decode mi.2.1 pc = .ok (.lload_n 1, 1)) (kk : WP G mi d mc ms res M' (pc + 1) (v0 :: some (.long x) :: r) (.long x :: st) M k n) : WP G mi d mc ms res M' pc (v0 :: some (.long x) :: r) st M k n := fun p e s m args below meth c H locs ls hc hM hS hl => lv_lload_n hc.1 hc.2.1 hd rfl (lc_get hl rfl) (kk p e s m args below meth c H locs ls hc hM hS hl)
theorem wp_ist1 {v0 : Option Value} {o : Option Value} {r : List (Option Value)} {x : Int32} (hd : decode mi.2.1 pc = .ok (.istore_n 1, 1)) (hn : 1 < mi.2.2.1) (hf : lc_fr (v0 :: o :: r) 1 = true) (kk : WP G mi d mc ms res M' (pc + 1) (v0 :: some (.int x) :: r) st M k n) : WP G mi d mc ms res M' pc (v0 :: o :: r) (.int x :: st) M k n := fun p e s m args below meth c H locs ls hc hM hS hl => lv_istore_n hc.1 hc.2.1 hd rfl (lc_asc hl) hn rfl (fun ls hl2 => kk p e s m args below meth c H locs ls hc hM hS (lc_put hf hl2))
theorem wp_ast1 {v0 : Option Value} {o : Option Value} {r : List (Option Value)} {x : Nat} (hd : decode mi.2.1 pc = .ok (.astore_n 1, 1)) (hn : 1 < mi.2.2.1) (hf : lc_fr (v0 :: o :: r) 1 = true) (kk : WP G mi d mc ms res M' (pc + 1) (v0 :: some (.ref x) :: r) st M k n) : WP G mi d mc ms res M' pc (v0 :: o :: r) (.ref x :: st) M k n := fun p e s m args below meth c H locs ls hc hM hS hl => lv_astore_n hc.1 hc.2.1 hd rfl (lc_asc hl) hn rfl (fun ls hl2 => kk p e s m args below meth c H locs ls hc hM hS (lc_put hf hl2))
theorem wp_astN1 {v0 : Option Value} {o : Option Value} {r : List (Option Value)}  (hd : decode mi.2.1 pc = .ok (.astore_n 1, 1)) (hn : 1 < mi.2.2.1) (hf : lc_fr (v0 :: o :: r) 1 = true) (kk : WP G mi d mc ms res M' (pc + 1) (v0 :: some (.null) :: r) st M k n) : WP G mi d mc ms res M' pc (v0 :: o :: r) (.null :: st) M k n := fun p e s m args below meth c H locs ls hc hM hS hl => lv_astore_nN hc.1 hc.2.1 hd rfl (lc_asc hl) hn rfl (fun ls hl2 => kk p e s m args below meth c H locs ls hc hM hS (lc_put hf hl2))
theorem wp_iinc1 {v0 : Option Value} {r : List (Option Value)} {x : Int32} {z : Int} (hd : decode mi.2.1 pc = .ok (.iinc 1 z, 3)) (hn : 1 < mi.2.2.1) (hf : lc_fr (v0 :: some (.int x) :: r) 1 = true) (kk : WP G mi d mc ms res M' (pc + 3) (v0 :: some (.int (x + Int32.ofInt z)) :: r) st M k n) : WP G mi d mc ms res M' pc (v0 :: some (.int x) :: r) st M k n := fun p e s m args below meth c H locs ls hc hM hS hl => lv_iinc' hc.1 hc.2.1 hd (lc_asc hl) (List.mem_filterMap.mpr ⟨1, List.mem_range.mpr (by simp), rfl⟩) hn (fun ls hl2 => kk p e s m args below meth c H locs ls hc hM hS (lc_put hf hl2))
theorem wp_ild2 {v0 v1 : Option Value} {r : List (Option Value)} {x : Int32} (hd : decode mi.2.1 pc = .ok (.iload_n 2, 1)) (kk : WP G mi d mc ms res M' (pc + 1) (v0 :: v1 :: some (.int x) :: r) (.int x :: st) M k n) : WP G mi d mc ms res M' pc (v0 :: v1 :: some (.int x) :: r) st M k n := fun p e s m args below meth c H locs ls hc hM hS hl => lv_iload_n hc.1 hc.2.1 hd rfl (lc_get hl rfl) (kk p e s m args below meth c H locs ls hc hM hS hl)
theorem wp_ald2 {v0 v1 : Option Value} {r : List (Option Value)} {x : Nat} (hd : decode mi.2.1 pc = .ok (.aload_n 2, 1)) (kk : WP G mi d mc ms res M' (pc + 1) (v0 :: v1 :: some (.ref x) :: r) (.ref x :: st) M k n) : WP G mi d mc ms res M' pc (v0 :: v1 :: some (.ref x) :: r) st M k n := fun p e s m args below meth c H locs ls hc hM hS hl => lv_aload_n hc.1 hc.2.1 hd rfl (lc_get hl rfl) (kk p e s m args below meth c H locs ls hc hM hS hl)
theorem wp_aldN2 {v0 v1 : Option Value} {r : List (Option Value)}  (hd : decode mi.2.1 pc = .ok (.aload_n 2, 1)) (kk : WP G mi d mc ms res M' (pc + 1) (v0 :: v1 :: some (.null) :: r) (.null :: st) M k n) : WP G mi d mc ms res M' pc (v0 :: v1 :: some (.null) :: r) st M k n := fun p e s m args below meth c H locs ls hc hM hS hl => lv_aload_nN hc.1 hc.2.1 hd rfl (lc_get hl rfl) (kk p e s m args below meth c H locs ls hc hM hS hl)
theorem wp_lld2 {v0 v1 : Option Value} {r : List (Option Value)} {x : Int64} (hd : decode mi.2.1 pc = .ok (.lload_n 2, 1)) (kk : WP G mi d mc ms res M' (pc + 1) (v0 :: v1 :: some (.long x) :: r) (.long x :: st) M k n) : WP G mi d mc ms res M' pc (v0 :: v1 :: some (.long x) :: r) st M k n := fun p e s m args below meth c H locs ls hc hM hS hl => lv_lload_n hc.1 hc.2.1 hd rfl (lc_get hl rfl) (kk p e s m args below meth c H locs ls hc hM hS hl)
theorem wp_ist2 {v0 v1 : Option Value} {o : Option Value} {r : List (Option Value)} {x : Int32} (hd : decode mi.2.1 pc = .ok (.istore_n 2, 1)) (hn : 2 < mi.2.2.1) (hf : lc_fr (v0 :: v1 :: o :: r) 2 = true) (kk : WP G mi d mc ms res M' (pc + 1) (v0 :: v1 :: some (.int x) :: r) st M k n) : WP G mi d mc ms res M' pc (v0 :: v1 :: o :: r) (.int x :: st) M k n := fun p e s m args below meth c H locs ls hc hM hS hl => lv_istore_n hc.1 hc.2.1 hd rfl (lc_asc hl) hn rfl (fun ls hl2 => kk p e s m args below meth c H locs ls hc hM hS (lc_put hf hl2))
theorem wp_ast2 {v0 v1 : Option Value} {o : Option Value} {r : List (Option Value)} {x : Nat} (hd : decode mi.2.1 pc = .ok (.astore_n 2, 1)) (hn : 2 < mi.2.2.1) (hf : lc_fr (v0 :: v1 :: o :: r) 2 = true) (kk : WP G mi d mc ms res M' (pc + 1) (v0 :: v1 :: some (.ref x) :: r) st M k n) : WP G mi d mc ms res M' pc (v0 :: v1 :: o :: r) (.ref x :: st) M k n := fun p e s m args below meth c H locs ls hc hM hS hl => lv_astore_n hc.1 hc.2.1 hd rfl (lc_asc hl) hn rfl (fun ls hl2 => kk p e s m args below meth c H locs ls hc hM hS (lc_put hf hl2))
theorem wp_astN2 {v0 v1 : Option Value} {o : Option Value} {r : List (Option Value)}  (hd : decode mi.2.1 pc = .ok (.astore_n 2, 1)) (hn : 2 < mi.2.2.1) (hf : lc_fr (v0 :: v1 :: o :: r) 2 = true) (kk : WP G mi d mc ms res M' (pc + 1) (v0 :: v1 :: some (.null) :: r) st M k n) : WP G mi d mc ms res M' pc (v0 :: v1 :: o :: r) (.null :: st) M k n := fun p e s m args below meth c H locs ls hc hM hS hl => lv_astore_nN hc.1 hc.2.1 hd rfl (lc_asc hl) hn rfl (fun ls hl2 => kk p e s m args below meth c H locs ls hc hM hS (lc_put hf hl2))
theorem wp_iinc2 {v0 v1 : Option Value} {r : List (Option Value)} {x : Int32} {z : Int} (hd : decode mi.2.1 pc = .ok (.iinc 2 z, 3)) (hn : 2 < mi.2.2.1) (hf : lc_fr (v0 :: v1 :: some (.int x) :: r) 2 = true) (kk : WP G mi d mc ms res M' (pc + 3) (v0 :: v1 :: some (.int (x + Int32.ofInt z)) :: r) st M k n) : WP G mi d mc ms res M' pc (v0 :: v1 :: some (.int x) :: r) st M k n := fun p e s m args below meth c H locs ls hc hM hS hl => lv_iinc' hc.1 hc.2.1 hd (lc_asc hl) (List.mem_filterMap.mpr ⟨2, List.mem_range.mpr (by simp), rfl⟩) hn (fun ls hl2 => kk p e s m args below meth c H locs ls hc hM hS (lc_put hf hl2))
theorem wp_ild3 {v0 v1 v2 : Option Value} {r : List (Option Value)} {x : Int32} (hd : decode mi.2.1 pc = .ok (.iload_n 3, 1)) (kk : WP G mi d mc ms res M' (pc + 1) (v0 :: v1 :: v2 :: some (.int x) :: r) (.int x :: st) M k n) : WP G mi d mc ms res M' pc (v0 :: v1 :: v2 :: some (.int x) :: r) st M k n := fun p e s m args below meth c H locs ls hc hM hS hl => lv_iload_n hc.1 hc.2.1 hd rfl (lc_get hl rfl) (kk p e s m args below meth c H locs ls hc hM hS hl)
theorem wp_ald3 {v0 v1 v2 : Option Value} {r : List (Option Value)} {x : Nat} (hd : decode mi.2.1 pc = .ok (.aload_n 3, 1)) (kk : WP G mi d mc ms res M' (pc + 1) (v0 :: v1 :: v2 :: some (.ref x) :: r) (.ref x :: st) M k n) : WP G mi d mc ms res M' pc (v0 :: v1 :: v2 :: some (.ref x) :: r) st M k n := fun p e s m args below meth c H locs ls hc hM hS hl => lv_aload_n hc.1 hc.2.1 hd rfl (lc_get hl rfl) (kk p e s m args below meth c H locs ls hc hM hS hl)
theorem wp_aldN3 {v0 v1 v2 : Option Value} {r : List (Option Value)}  (hd : decode mi.2.1 pc = .ok (.aload_n 3, 1)) (kk : WP G mi d mc ms res M' (pc + 1) (v0 :: v1 :: v2 :: some (.null) :: r) (.null :: st) M k n) : WP G mi d mc ms res M' pc (v0 :: v1 :: v2 :: some (.null) :: r) st M k n := fun p e s m args below meth c H locs ls hc hM hS hl => lv_aload_nN hc.1 hc.2.1 hd rfl (lc_get hl rfl) (kk p e s m args below meth c H locs ls hc hM hS hl)
theorem wp_lld3 {v0 v1 v2 : Option Value} {r : List (Option Value)} {x : Int64} (hd : decode mi.2.1 pc = .ok (.lload_n 3, 1)) (kk : WP G mi d mc ms res M' (pc + 1) (v0 :: v1 :: v2 :: some (.long x) :: r) (.long x :: st) M k n) : WP G mi d mc ms res M' pc (v0 :: v1 :: v2 :: some (.long x) :: r) st M k n := fun p e s m args below meth c H locs ls hc hM hS hl => lv_lload_n hc.1 hc.2.1 hd rfl (lc_get hl rfl) (kk p e s m args below meth c H locs ls hc hM hS hl)
theorem wp_ist3 {v0 v1 v2 : Option Value} {o : Option Value} {r : List (Option Value)} {x : Int32} (hd : decode mi.2.1 pc = .ok (.istore_n 3, 1)) (hn : 3 < mi.2.2.1) (hf : lc_fr (v0 :: v1 :: v2 :: o :: r) 3 = true) (kk : WP G mi d mc ms res M' (pc + 1) (v0 :: v1 :: v2 :: some (.int x) :: r) st M k n) : WP G mi d mc ms res M' pc (v0 :: v1 :: v2 :: o :: r) (.int x :: st) M k n := fun p e s m args below meth c H locs ls hc hM hS hl => lv_istore_n hc.1 hc.2.1 hd rfl (lc_asc hl) hn rfl (fun ls hl2 => kk p e s m args below meth c H locs ls hc hM hS (lc_put hf hl2))
theorem wp_ast3 {v0 v1 v2 : Option Value} {o : Option Value} {r : List (Option Value)} {x : Nat} (hd : decode mi.2.1 pc = .ok (.astore_n 3, 1)) (hn : 3 < mi.2.2.1) (hf : lc_fr (v0 :: v1 :: v2 :: o :: r) 3 = true) (kk : WP G mi d mc ms res M' (pc + 1) (v0 :: v1 :: v2 :: some (.ref x) :: r) st M k n) : WP G mi d mc ms res M' pc (v0 :: v1 :: v2 :: o :: r) (.ref x :: st) M k n := fun p e s m args below meth c H locs ls hc hM hS hl => lv_astore_n hc.1 hc.2.1 hd rfl (lc_asc hl) hn rfl (fun ls hl2 => kk p e s m args below meth c H locs ls hc hM hS (lc_put hf hl2))
theorem wp_astN3 {v0 v1 v2 : Option Value} {o : Option Value} {r : List (Option Value)}  (hd : decode mi.2.1 pc = .ok (.astore_n 3, 1)) (hn : 3 < mi.2.2.1) (hf : lc_fr (v0 :: v1 :: v2 :: o :: r) 3 = true) (kk : WP G mi d mc ms res M' (pc + 1) (v0 :: v1 :: v2 :: some (.null) :: r) st M k n) : WP G mi d mc ms res M' pc (v0 :: v1 :: v2 :: o :: r) (.null :: st) M k n := fun p e s m args below meth c H locs ls hc hM hS hl => lv_astore_nN hc.1 hc.2.1 hd rfl (lc_asc hl) hn rfl (fun ls hl2 => kk p e s m args below meth c H locs ls hc hM hS (lc_put hf hl2))
theorem wp_iinc3 {v0 v1 v2 : Option Value} {r : List (Option Value)} {x : Int32} {z : Int} (hd : decode mi.2.1 pc = .ok (.iinc 3 z, 3)) (hn : 3 < mi.2.2.1) (hf : lc_fr (v0 :: v1 :: v2 :: some (.int x) :: r) 3 = true) (kk : WP G mi d mc ms res M' (pc + 3) (v0 :: v1 :: v2 :: some (.int (x + Int32.ofInt z)) :: r) st M k n) : WP G mi d mc ms res M' pc (v0 :: v1 :: v2 :: some (.int x) :: r) st M k n := fun p e s m args below meth c H locs ls hc hM hS hl => lv_iinc' hc.1 hc.2.1 hd (lc_asc hl) (List.mem_filterMap.mpr ⟨3, List.mem_range.mpr (by simp), rfl⟩) hn (fun ls hl2 => kk p e s m args below meth c H locs ls hc hM hS (lc_put hf hl2))
theorem wp_ild4 {v0 v1 v2 v3 : Option Value} {r : List (Option Value)} {x : Int32} (hd : decode mi.2.1 pc = .ok (.iload 4, 2)) (kk : WP G mi d mc ms res M' (pc + 2) (v0 :: v1 :: v2 :: v3 :: some (.int x) :: r) (.int x :: st) M k n) : WP G mi d mc ms res M' pc (v0 :: v1 :: v2 :: v3 :: some (.int x) :: r) st M k n := fun p e s m args below meth c H locs ls hc hM hS hl => lv_iload hc.1 hc.2.1 hd (lc_get hl rfl) (kk p e s m args below meth c H locs ls hc hM hS hl)
theorem wp_ald4 {v0 v1 v2 v3 : Option Value} {r : List (Option Value)} {x : Nat} (hd : decode mi.2.1 pc = .ok (.aload 4, 2)) (kk : WP G mi d mc ms res M' (pc + 2) (v0 :: v1 :: v2 :: v3 :: some (.ref x) :: r) (.ref x :: st) M k n) : WP G mi d mc ms res M' pc (v0 :: v1 :: v2 :: v3 :: some (.ref x) :: r) st M k n := fun p e s m args below meth c H locs ls hc hM hS hl => lv_aload hc.1 hc.2.1 hd (lc_get hl rfl) (kk p e s m args below meth c H locs ls hc hM hS hl)
theorem wp_aldN4 {v0 v1 v2 v3 : Option Value} {r : List (Option Value)}  (hd : decode mi.2.1 pc = .ok (.aload 4, 2)) (kk : WP G mi d mc ms res M' (pc + 2) (v0 :: v1 :: v2 :: v3 :: some (.null) :: r) (.null :: st) M k n) : WP G mi d mc ms res M' pc (v0 :: v1 :: v2 :: v3 :: some (.null) :: r) st M k n := fun p e s m args below meth c H locs ls hc hM hS hl => lv_aloadN hc.1 hc.2.1 hd (lc_get hl rfl) (kk p e s m args below meth c H locs ls hc hM hS hl)
theorem wp_lld4 {v0 v1 v2 v3 : Option Value} {r : List (Option Value)} {x : Int64} (hd : decode mi.2.1 pc = .ok (.lload 4, 2)) (kk : WP G mi d mc ms res M' (pc + 2) (v0 :: v1 :: v2 :: v3 :: some (.long x) :: r) (.long x :: st) M k n) : WP G mi d mc ms res M' pc (v0 :: v1 :: v2 :: v3 :: some (.long x) :: r) st M k n := fun p e s m args below meth c H locs ls hc hM hS hl => lv_lload hc.1 hc.2.1 hd (lc_get hl rfl) (kk p e s m args below meth c H locs ls hc hM hS hl)
theorem wp_ist4 {v0 v1 v2 v3 : Option Value} {o : Option Value} {r : List (Option Value)} {x : Int32} (hd : decode mi.2.1 pc = .ok (.istore 4, 2)) (hn : 4 < mi.2.2.1) (hf : lc_fr (v0 :: v1 :: v2 :: v3 :: o :: r) 4 = true) (kk : WP G mi d mc ms res M' (pc + 2) (v0 :: v1 :: v2 :: v3 :: some (.int x) :: r) st M k n) : WP G mi d mc ms res M' pc (v0 :: v1 :: v2 :: v3 :: o :: r) (.int x :: st) M k n := fun p e s m args below meth c H locs ls hc hM hS hl => lv_istore hc.1 hc.2.1 hd (lc_asc hl) hn rfl (fun ls hl2 => kk p e s m args below meth c H locs ls hc hM hS (lc_put hf hl2))
theorem wp_ast4 {v0 v1 v2 v3 : Option Value} {o : Option Value} {r : List (Option Value)} {x : Nat} (hd : decode mi.2.1 pc = .ok (.astore 4, 2)) (hn : 4 < mi.2.2.1) (hf : lc_fr (v0 :: v1 :: v2 :: v3 :: o :: r) 4 = true) (kk : WP G mi d mc ms res M' (pc + 2) (v0 :: v1 :: v2 :: v3 :: some (.ref x) :: r) st M k n) : WP G mi d mc ms res M' pc (v0 :: v1 :: v2 :: v3 :: o :: r) (.ref x :: st) M k n := fun p e s m args below meth c H locs ls hc hM hS hl => lv_astore hc.1 hc.2.1 hd (lc_asc hl) hn rfl (fun ls hl2 => kk p e s m args below meth c H locs ls hc hM hS (lc_put hf hl2))
theorem wp_astN4 {v0 v1 v2 v3 : Option Value} {o : Option Value} {r : List (Option Value)}  (hd : decode mi.2.1 pc = .ok (.astore 4, 2)) (hn : 4 < mi.2.2.1) (hf : lc_fr (v0 :: v1 :: v2 :: v3 :: o :: r) 4 = true) (kk : WP G mi d mc ms res M' (pc + 2) (v0 :: v1 :: v2 :: v3 :: some (.null) :: r) st M k n) : WP G mi d mc ms res M' pc (v0 :: v1 :: v2 :: v3 :: o :: r) (.null :: st) M k n := fun p e s m args below meth c H locs ls hc hM hS hl => lv_astoreN hc.1 hc.2.1 hd (lc_asc hl) hn rfl (fun ls hl2 => kk p e s m args below meth c H locs ls hc hM hS (lc_put hf hl2))
theorem wp_iinc4 {v0 v1 v2 v3 : Option Value} {r : List (Option Value)} {x : Int32} {z : Int} (hd : decode mi.2.1 pc = .ok (.iinc 4 z, 3)) (hn : 4 < mi.2.2.1) (hf : lc_fr (v0 :: v1 :: v2 :: v3 :: some (.int x) :: r) 4 = true) (kk : WP G mi d mc ms res M' (pc + 3) (v0 :: v1 :: v2 :: v3 :: some (.int (x + Int32.ofInt z)) :: r) st M k n) : WP G mi d mc ms res M' pc (v0 :: v1 :: v2 :: v3 :: some (.int x) :: r) st M k n := fun p e s m args below meth c H locs ls hc hM hS hl => lv_iinc' hc.1 hc.2.1 hd (lc_asc hl) (List.mem_filterMap.mpr ⟨4, List.mem_range.mpr (by simp), rfl⟩) hn (fun ls hl2 => kk p e s m args below meth c H locs ls hc hM hS (lc_put hf hl2))
theorem wp_ild5 {v0 v1 v2 v3 v4 : Option Value} {r : List (Option Value)} {x : Int32} (hd : decode mi.2.1 pc = .ok (.iload 5, 2)) (kk : WP G mi d mc ms res M' (pc + 2) (v0 :: v1 :: v2 :: v3 :: v4 :: some (.int x) :: r) (.int x :: st) M k n) : WP G mi d mc ms res M' pc (v0 :: v1 :: v2 :: v3 :: v4 :: some (.int x) :: r) st M k n := fun p e s m args below meth c H locs ls hc hM hS hl => lv_iload hc.1 hc.2.1 hd (lc_get hl rfl) (kk p e s m args below meth c H locs ls hc hM hS hl)
theorem wp_ald5 {v0 v1 v2 v3 v4 : Option Value} {r : List (Option Value)} {x : Nat} (hd : decode mi.2.1 pc = .ok (.aload 5, 2)) (kk : WP G mi d mc ms res M' (pc + 2) (v0 :: v1 :: v2 :: v3 :: v4 :: some (.ref x) :: r) (.ref x :: st) M k n) : WP G mi d mc ms res M' pc (v0 :: v1 :: v2 :: v3 :: v4 :: some (.ref x) :: r) st M k n := fun p e s m args below meth c H locs ls hc hM hS hl => lv_aload hc.1 hc.2.1 hd (lc_get hl rfl) (kk p e s m args below meth c H locs ls hc hM hS hl)
theorem wp_aldN5 {v0 v1 v2 v3 v4 : Option Value} {r : List (Option Value)}  (hd : decode mi.2.1 pc = .ok (.aload 5, 2)) (kk : WP G mi d mc ms res M' (pc + 2) (v0 :: v1 :: v2 :: v3 :: v4 :: some (.null) :: r) (.null :: st) M k n) : WP G mi d mc ms res M' pc (v0 :: v1 :: v2 :: v3 :: v4 :: some (.null) :: r) st M k n := fun p e s m args below meth c H locs ls hc hM hS hl => lv_aloadN hc.1 hc.2.1 hd (lc_get hl rfl) (kk p e s m args below meth c H locs ls hc hM hS hl)
theorem wp_lld5 {v0 v1 v2 v3 v4 : Option Value} {r : List (Option Value)} {x : Int64} (hd : decode mi.2.1 pc = .ok (.lload 5, 2)) (kk : WP G mi d mc ms res M' (pc + 2) (v0 :: v1 :: v2 :: v3 :: v4 :: some (.long x) :: r) (.long x :: st) M k n) : WP G mi d mc ms res M' pc (v0 :: v1 :: v2 :: v3 :: v4 :: some (.long x) :: r) st M k n := fun p e s m args below meth c H locs ls hc hM hS hl => lv_lload hc.1 hc.2.1 hd (lc_get hl rfl) (kk p e s m args below meth c H locs ls hc hM hS hl)
theorem wp_ist5 {v0 v1 v2 v3 v4 : Option Value} {o : Option Value} {r : List (Option Value)} {x : Int32} (hd : decode mi.2.1 pc = .ok (.istore 5, 2)) (hn : 5 < mi.2.2.1) (hf : lc_fr (v0 :: v1 :: v2 :: v3 :: v4 :: o :: r) 5 = true) (kk : WP G mi d mc ms res M' (pc + 2) (v0 :: v1 :: v2 :: v3 :: v4 :: some (.int x) :: r) st M k n) : WP G mi d mc ms res M' pc (v0 :: v1 :: v2 :: v3 :: v4 :: o :: r) (.int x :: st) M k n := fun p e s m args below meth c H locs ls hc hM hS hl => lv_istore hc.1 hc.2.1 hd (lc_asc hl) hn rfl (fun ls hl2 => kk p e s m args below meth c H locs ls hc hM hS (lc_put hf hl2))
theorem wp_ast5 {v0 v1 v2 v3 v4 : Option Value} {o : Option Value} {r : List (Option Value)} {x : Nat} (hd : decode mi.2.1 pc = .ok (.astore 5, 2)) (hn : 5 < mi.2.2.1) (hf : lc_fr (v0 :: v1 :: v2 :: v3 :: v4 :: o :: r) 5 = true) (kk : WP G mi d mc ms res M' (pc + 2) (v0 :: v1 :: v2 :: v3 :: v4 :: some (.ref x) :: r) st M k n) : WP G mi d mc ms res M' pc (v0 :: v1 :: v2 :: v3 :: v4 :: o :: r) (.ref x :: st) M k n := fun p e s m args below meth c H locs ls hc hM hS hl => lv_astore hc.1 hc.2.1 hd (lc_asc hl) hn rfl (fun ls hl2 => kk p e s m args below meth c H locs ls hc hM hS (lc_put hf hl2))
theorem wp_astN5 {v0 v1 v2 v3 v4 : Option Value} {o : Option Value} {r : List (Option Value)}  (hd : decode mi.2.1 pc = .ok (.astore 5, 2)) (hn : 5 < mi.2.2.1) (hf : lc_fr (v0 :: v1 :: v2 :: v3 :: v4 :: o :: r) 5 = true) (kk : WP G mi d mc ms res M' (pc + 2) (v0 :: v1 :: v2 :: v3 :: v4 :: some (.null) :: r) st M k n) : WP G mi d mc ms res M' pc (v0 :: v1 :: v2 :: v3 :: v4 :: o :: r) (.null :: st) M k n := fun p e s m args below meth c H locs ls hc hM hS hl => lv_astoreN hc.1 hc.2.1 hd (lc_asc hl) hn rfl (fun ls hl2 => kk p e s m args below meth c H locs ls hc hM hS (lc_put hf hl2))
theorem wp_iinc5 {v0 v1 v2 v3 v4 : Option Value} {r : List (Option Value)} {x : Int32} {z : Int} (hd : decode mi.2.1 pc = .ok (.iinc 5 z, 3)) (hn : 5 < mi.2.2.1) (hf : lc_fr (v0 :: v1 :: v2 :: v3 :: v4 :: some (.int x) :: r) 5 = true) (kk : WP G mi d mc ms res M' (pc + 3) (v0 :: v1 :: v2 :: v3 :: v4 :: some (.int (x + Int32.ofInt z)) :: r) st M k n) : WP G mi d mc ms res M' pc (v0 :: v1 :: v2 :: v3 :: v4 :: some (.int x) :: r) st M k n := fun p e s m args below meth c H locs ls hc hM hS hl => lv_iinc' hc.1 hc.2.1 hd (lc_asc hl) (List.mem_filterMap.mpr ⟨5, List.mem_range.mpr (by simp), rfl⟩) hn (fun ls hl2 => kk p e s m args below meth c H locs ls hc hM hS (lc_put hf hl2))
theorem wp_ild6 {v0 v1 v2 v3 v4 v5 : Option Value} {r : List (Option Value)} {x : Int32} (hd : decode mi.2.1 pc = .ok (.iload 6, 2)) (kk : WP G mi d mc ms res M' (pc + 2) (v0 :: v1 :: v2 :: v3 :: v4 :: v5 :: some (.int x) :: r) (.int x :: st) M k n) : WP G mi d mc ms res M' pc (v0 :: v1 :: v2 :: v3 :: v4 :: v5 :: some (.int x) :: r) st M k n := fun p e s m args below meth c H locs ls hc hM hS hl => lv_iload hc.1 hc.2.1 hd (lc_get hl rfl) (kk p e s m args below meth c H locs ls hc hM hS hl)
theorem wp_ald6 {v0 v1 v2 v3 v4 v5 : Option Value} {r : List (Option Value)} {x : Nat} (hd : decode mi.2.1 pc = .ok (.aload 6, 2)) (kk : WP G mi d mc ms res M' (pc + 2) (v0 :: v1 :: v2 :: v3 :: v4 :: v5 :: some (.ref x) :: r) (.ref x :: st) M k n) : WP G mi d mc ms res M' pc (v0 :: v1 :: v2 :: v3 :: v4 :: v5 :: some (.ref x) :: r) st M k n := fun p e s m args below meth c H locs ls hc hM hS hl => lv_aload hc.1 hc.2.1 hd (lc_get hl rfl) (kk p e s m args below meth c H locs ls hc hM hS hl)
theorem wp_aldN6 {v0 v1 v2 v3 v4 v5 : Option Value} {r : List (Option Value)}  (hd : decode mi.2.1 pc = .ok (.aload 6, 2)) (kk : WP G mi d mc ms res M' (pc + 2) (v0 :: v1 :: v2 :: v3 :: v4 :: v5 :: some (.null) :: r) (.null :: st) M k n) : WP G mi d mc ms res M' pc (v0 :: v1 :: v2 :: v3 :: v4 :: v5 :: some (.null) :: r) st M k n := fun p e s m args below meth c H locs ls hc hM hS hl => lv_aloadN hc.1 hc.2.1 hd (lc_get hl rfl) (kk p e s m args below meth c H locs ls hc hM hS hl)
theorem wp_lld6 {v0 v1 v2 v3 v4 v5 : Option Value} {r : List (Option Value)} {x : Int64} (hd : decode mi.2.1 pc = .ok (.lload 6, 2)) (kk : WP G mi d mc ms res M' (pc + 2) (v0 :: v1 :: v2 :: v3 :: v4 :: v5 :: some (.long x) :: r) (.long x :: st) M k n) : WP G mi d mc ms res M' pc (v0 :: v1 :: v2 :: v3 :: v4 :: v5 :: some (.long x) :: r) st M k n := fun p e s m args below meth c H locs ls hc hM hS hl => lv_lload hc.1 hc.2.1 hd (lc_get hl rfl) (kk p e s m args below meth c H locs ls hc hM hS hl)
theorem wp_ist6 {v0 v1 v2 v3 v4 v5 : Option Value} {o : Option Value} {r : List (Option Value)} {x : Int32} (hd : decode mi.2.1 pc = .ok (.istore 6, 2)) (hn : 6 < mi.2.2.1) (hf : lc_fr (v0 :: v1 :: v2 :: v3 :: v4 :: v5 :: o :: r) 6 = true) (kk : WP G mi d mc ms res M' (pc + 2) (v0 :: v1 :: v2 :: v3 :: v4 :: v5 :: some (.int x) :: r) st M k n) : WP G mi d mc ms res M' pc (v0 :: v1 :: v2 :: v3 :: v4 :: v5 :: o :: r) (.int x :: st) M k n := fun p e s m args below meth c H locs ls hc hM hS hl => lv_istore hc.1 hc.2.1 hd (lc_asc hl) hn rfl (fun ls hl2 => kk p e s m args below meth c H locs ls hc hM hS (lc_put hf hl2))
theorem wp_ast6 {v0 v1 v2 v3 v4 v5 : Option Value} {o : Option Value} {r : List (Option Value)} {x : Nat} (hd : decode mi.2.1 pc = .ok (.astore 6, 2)) (hn : 6 < mi.2.2.1) (hf : lc_fr (v0 :: v1 :: v2 :: v3 :: v4 :: v5 :: o :: r) 6 = true) (kk : WP G mi d mc ms res M' (pc + 2) (v0 :: v1 :: v2 :: v3 :: v4 :: v5 :: some (.ref x) :: r) st M k n) : WP G mi d mc ms res M' pc (v0 :: v1 :: v2 :: v3 :: v4 :: v5 :: o :: r) (.ref x :: st) M k n := fun p e s m args below meth c H locs ls hc hM hS hl => lv_astore hc.1 hc.2.1 hd (lc_asc hl) hn rfl (fun ls hl2 => kk p e s m args below meth c H locs ls hc hM hS (lc_put hf hl2))
theorem wp_astN6 {v0 v1 v2 v3 v4 v5 : Option Value} {o : Option Value} {r : List (Option Value)}  (hd : decode mi.2.1 pc = .ok (.astore 6, 2)) (hn : 6 < mi.2.2.1) (hf : lc_fr (v0 :: v1 :: v2 :: v3 :: v4 :: v5 :: o :: r) 6 = true) (kk : WP G mi d mc ms res M' (pc + 2) (v0 :: v1 :: v2 :: v3 :: v4 :: v5 :: some (.null) :: r) st M k n) : WP G mi d mc ms res M' pc (v0 :: v1 :: v2 :: v3 :: v4 :: v5 :: o :: r) (.null :: st) M k n := fun p e s m args below meth c H locs ls hc hM hS hl => lv_astoreN hc.1 hc.2.1 hd (lc_asc hl) hn rfl (fun ls hl2 => kk p e s m args below meth c H locs ls hc hM hS (lc_put hf hl2))
theorem wp_iinc6 {v0 v1 v2 v3 v4 v5 : Option Value} {r : List (Option Value)} {x : Int32} {z : Int} (hd : decode mi.2.1 pc = .ok (.iinc 6 z, 3)) (hn : 6 < mi.2.2.1) (hf : lc_fr (v0 :: v1 :: v2 :: v3 :: v4 :: v5 :: some (.int x) :: r) 6 = true) (kk : WP G mi d mc ms res M' (pc + 3) (v0 :: v1 :: v2 :: v3 :: v4 :: v5 :: some (.int (x + Int32.ofInt z)) :: r) st M k n) : WP G mi d mc ms res M' pc (v0 :: v1 :: v2 :: v3 :: v4 :: v5 :: some (.int x) :: r) st M k n := fun p e s m args below meth c H locs ls hc hM hS hl => lv_iinc' hc.1 hc.2.1 hd (lc_asc hl) (List.mem_filterMap.mpr ⟨6, List.mem_range.mpr (by simp), rfl⟩) hn (fun ls hl2 => kk p e s m args below meth c H locs ls hc hM hS (lc_put hf hl2))
theorem wp_ild7 {v0 v1 v2 v3 v4 v5 v6 : Option Value} {r : List (Option Value)} {x : Int32} (hd : decode mi.2.1 pc = .ok (.iload 7, 2)) (kk : WP G mi d mc ms res M' (pc + 2) (v0 :: v1 :: v2 :: v3 :: v4 :: v5 :: v6 :: some (.int x) :: r) (.int x :: st) M k n) : WP G mi d mc ms res M' pc (v0 :: v1 :: v2 :: v3 :: v4 :: v5 :: v6 :: some (.int x) :: r) st M k n := fun p e s m args below meth c H locs ls hc hM hS hl => lv_iload hc.1 hc.2.1 hd (lc_get hl rfl) (kk p e s m args below meth c H locs ls hc hM hS hl)
theorem wp_ald7 {v0 v1 v2 v3 v4 v5 v6 : Option Value} {r : List (Option Value)} {x : Nat} (hd : decode mi.2.1 pc = .ok (.aload 7, 2)) (kk : WP G mi d mc ms res M' (pc + 2) (v0 :: v1 :: v2 :: v3 :: v4 :: v5 :: v6 :: some (.ref x) :: r) (.ref x :: st) M k n) : WP G mi d mc ms res M' pc (v0 :: v1 :: v2 :: v3 :: v4 :: v5 :: v6 :: some (.ref x) :: r) st M k n := fun p e s m args below meth c H locs ls hc hM hS hl => lv_aload hc.1 hc.2.1 hd (lc_get hl rfl) (kk p e s m args below meth c H locs ls hc hM hS hl)
theorem wp_aldN7 {v0 v1 v2 v3 v4 v5 v6 : Option Value} {r : List (Option Value)}  (hd : decode mi.2.1 pc = .ok (.aload 7, 2)) (kk : WP G mi d mc ms res M' (pc + 2) (v0 :: v1 :: v2 :: v3 :: v4 :: v5 :: v6 :: some (.null) :: r) (.null :: st) M k n) : WP G mi d mc ms res M' pc (v0 :: v1 :: v2 :: v3 :: v4 :: v5 :: v6 :: some (.null) :: r) st M k n := fun p e s m args below meth c H locs ls hc hM hS hl => lv_aloadN hc.1 hc.2.1 hd (lc_get hl rfl) (kk p e s m args below meth c H locs ls hc hM hS hl)
theorem wp_lld7 {v0 v1 v2 v3 v4 v5 v6 : Option Value} {r : List (Option Value)} {x : Int64} (hd : decode mi.2.1 pc = .ok (.lload 7, 2)) (kk : WP G mi d mc ms res M' (pc + 2) (v0 :: v1 :: v2 :: v3 :: v4 :: v5 :: v6 :: some (.long x) :: r) (.long x :: st) M k n) : WP G mi d mc ms res M' pc (v0 :: v1 :: v2 :: v3 :: v4 :: v5 :: v6 :: some (.long x) :: r) st M k n := fun p e s m args below meth c H locs ls hc hM hS hl => lv_lload hc.1 hc.2.1 hd (lc_get hl rfl) (kk p e s m args below meth c H locs ls hc hM hS hl)
theorem wp_ist7 {v0 v1 v2 v3 v4 v5 v6 : Option Value} {o : Option Value} {r : List (Option Value)} {x : Int32} (hd : decode mi.2.1 pc = .ok (.istore 7, 2)) (hn : 7 < mi.2.2.1) (hf : lc_fr (v0 :: v1 :: v2 :: v3 :: v4 :: v5 :: v6 :: o :: r) 7 = true) (kk : WP G mi d mc ms res M' (pc + 2) (v0 :: v1 :: v2 :: v3 :: v4 :: v5 :: v6 :: some (.int x) :: r) st M k n) : WP G mi d mc ms res M' pc (v0 :: v1 :: v2 :: v3 :: v4 :: v5 :: v6 :: o :: r) (.int x :: st) M k n := fun p e s m args below meth c H locs ls hc hM hS hl => lv_istore hc.1 hc.2.1 hd (lc_asc hl) hn rfl (fun ls hl2 => kk p e s m args below meth c H locs ls hc hM hS (lc_put hf hl2))
theorem wp_ast7 {v0 v1 v2 v3 v4 v5 v6 : Option Value} {o : Option Value} {r : List (Option Value)} {x : Nat} (hd : decode mi.2.1 pc = .ok (.astore 7, 2)) (hn : 7 < mi.2.2.1) (hf : lc_fr (v0 :: v1 :: v2 :: v3 :: v4 :: v5 :: v6 :: o :: r) 7 = true) (kk : WP G mi d mc ms res M' (pc + 2) (v0 :: v1 :: v2 :: v3 :: v4 :: v5 :: v6 :: some (.ref x) :: r) st M k n) : WP G mi d mc ms res M' pc (v0 :: v1 :: v2 :: v3 :: v4 :: v5 :: v6 :: o :: r) (.ref x :: st) M k n := fun p e s m args below meth c H locs ls hc hM hS hl => lv_astore hc.1 hc.2.1 hd (lc_asc hl) hn rfl (fun ls hl2 => kk p e s m args below meth c H locs ls hc hM hS (lc_put hf hl2))
theorem wp_astN7 {v0 v1 v2 v3 v4 v5 v6 : Option Value} {o : Option Value} {r : List (Option Value)}  (hd : decode mi.2.1 pc = .ok (.astore 7, 2)) (hn : 7 < mi.2.2.1) (hf : lc_fr (v0 :: v1 :: v2 :: v3 :: v4 :: v5 :: v6 :: o :: r) 7 = true) (kk : WP G mi d mc ms res M' (pc + 2) (v0 :: v1 :: v2 :: v3 :: v4 :: v5 :: v6 :: some (.null) :: r) st M k n) : WP G mi d mc ms res M' pc (v0 :: v1 :: v2 :: v3 :: v4 :: v5 :: v6 :: o :: r) (.null :: st) M k n := fun p e s m args below meth c H locs ls hc hM hS hl => lv_astoreN hc.1 hc.2.1 hd (lc_asc hl) hn rfl (fun ls hl2 => kk p e s m args below meth c H locs ls hc hM hS (lc_put hf hl2))
theorem wp_iinc7 {v0 v1 v2 v3 v4 v5 v6 : Option Value} {r : List (Option Value)} {x : Int32} {z : Int} (hd : decode mi.2.1 pc = .ok (.iinc 7 z, 3)) (hn : 7 < mi.2.2.1) (hf : lc_fr (v0 :: v1 :: v2 :: v3 :: v4 :: v5 :: v6 :: some (.int x) :: r) 7 = true) (kk : WP G mi d mc ms res M' (pc + 3) (v0 :: v1 :: v2 :: v3 :: v4 :: v5 :: v6 :: some (.int (x + Int32.ofInt z)) :: r) st M k n) : WP G mi d mc ms res M' pc (v0 :: v1 :: v2 :: v3 :: v4 :: v5 :: v6 :: some (.int x) :: r) st M k n := fun p e s m args below meth c H locs ls hc hM hS hl => lv_iinc' hc.1 hc.2.1 hd (lc_asc hl) (List.mem_filterMap.mpr ⟨7, List.mem_range.mpr (by simp), rfl⟩) hn (fun ls hl2 => kk p e s m args below meth c H locs ls hc hM hS (lc_put hf hl2))
theorem wp_ild8 {v0 v1 v2 v3 v4 v5 v6 v7 : Option Value} {r : List (Option Value)} {x : Int32} (hd : decode mi.2.1 pc = .ok (.iload 8, 2)) (kk : WP G mi d mc ms res M' (pc + 2) (v0 :: v1 :: v2 :: v3 :: v4 :: v5 :: v6 :: v7 :: some (.int x) :: r) (.int x :: st) M k n) : WP G mi d mc ms res M' pc (v0 :: v1 :: v2 :: v3 :: v4 :: v5 :: v6 :: v7 :: some (.int x) :: r) st M k n := fun p e s m args below meth c H locs ls hc hM hS hl => lv_iload hc.1 hc.2.1 hd (lc_get hl rfl) (kk p e s m args below meth c H locs ls hc hM hS hl)
theorem wp_ald8 {v0 v1 v2 v3 v4 v5 v6 v7 : Option Value} {r : List (Option Value)} {x : Nat} (hd : decode mi.2.1 pc = .ok (.aload 8, 2)) (kk : WP G mi d mc ms res M' (pc + 2) (v0 :: v1 :: v2 :: v3 :: v4 :: v5 :: v6 :: v7 :: some (.ref x) :: r) (.ref x :: st) M k n) : WP G mi d mc ms res M' pc (v0 :: v1 :: v2 :: v3 :: v4 :: v5 :: v6 :: v7 :: some (.ref x) :: r) st M k n := fun p e s m args below meth c H locs ls hc hM hS hl => lv_aload hc.1 hc.2.1 hd (lc_get hl rfl) (kk p e s m args below meth c H locs ls hc hM hS hl)
theorem wp_aldN8 {v0 v1 v2 v3 v4 v5 v6 v7 : Option Value} {r : List (Option Value)}  (hd : decode mi.2.1 pc = .ok (.aload 8, 2)) (kk : WP G mi d mc ms res M' (pc + 2) (v0 :: v1 :: v2 :: v3 :: v4 :: v5 :: v6 :: v7 :: some (.null) :: r) (.null :: st) M k n) : WP G mi d mc ms res M' pc (v0 :: v1 :: v2 :: v3 :: v4 :: v5 :: v6 :: v7 :: some (.null) :: r) st M k n := fun p e s m args below meth c H locs ls hc hM hS hl => lv_aloadN hc.1 hc.2.1 hd (lc_get hl rfl) (kk p e s m args below meth c H locs ls hc hM hS hl)
theorem wp_lld8 {v0 v1 v2 v3 v4 v5 v6 v7 : Option Value} {r : List (Option Value)} {x : Int64} (hd : decode mi.2.1 pc = .ok (.lload 8, 2)) (kk : WP G mi d mc ms res M' (pc + 2) (v0 :: v1 :: v2 :: v3 :: v4 :: v5 :: v6 :: v7 :: some (.long x) :: r) (.long x :: st) M k n) : WP G mi d mc ms res M' pc (v0 :: v1 :: v2 :: v3 :: v4 :: v5 :: v6 :: v7 :: some (.long x) :: r) st M k n := fun p e s m args below meth c H locs ls hc hM hS hl => lv_lload hc.1 hc.2.1 hd (lc_get hl rfl) (kk p e s m args below meth c H locs ls hc hM hS hl)
theorem wp_ist8 {v0 v1 v2 v3 v4 v5 v6 v7 : Option Value} {o : Option Value} {r : List (Option Value)} {x : Int32} (hd : decode mi.2.1 pc = .ok (.istore 8, 2)) (hn : 8 < mi.2.2.1) (hf : lc_fr (v0 :: v1 :: v2 :: v3 :: v4 :: v5 :: v6 :: v7 :: o :: r) 8 = true) (kk : WP G mi d mc ms res M' (pc + 2) (v0 :: v1 :: v2 :: v3 :: v4 :: v5 :: v6 :: v7 :: some (.int x) :: r) st M k n) : WP G mi d mc ms res M' pc (v0 :: v1 :: v2 :: v3 :: v4 :: v5 :: v6 :: v7 :: o :: r) (.int x :: st) M k n := fun p e s m args below meth c H locs ls hc hM hS hl => lv_istore hc.1 hc.2.1 hd (lc_asc hl) hn rfl (fun ls hl2 => kk p e s m args below meth c H locs ls hc hM hS (lc_put hf hl2))
theorem wp_ast8 {v0 v1 v2 v3 v4 v5 v6 v7 : Option Value} {o : Option Value} {r : List (Option Value)} {x : Nat} (hd : decode mi.2.1 pc = .ok (.astore 8, 2)) (hn : 8 < mi.2.2.1) (hf : lc_fr (v0 :: v1 :: v2 :: v3 :: v4 :: v5 :: v6 :: v7 :: o :: r) 8 = true) (kk : WP G mi d mc ms res M' (pc + 2) (v0 :: v1 :: v2 :: v3 :: v4 :: v5 :: v6 :: v7 :: some (.ref x) :: r) st M k n) : WP G mi d mc ms res M' pc (v0 :: v1 :: v2 :: v3 :: v4 :: v5 :: v6 :: v7 :: o :: r) (.ref x :: st) M k n := fun p e s m args below meth c H locs ls hc hM hS hl => lv_astore hc.1 hc.2.1 hd (lc_asc hl) hn rfl (fun ls hl2 => kk p e s m args below meth c H locs ls hc hM hS (lc_put hf hl2))
theorem wp_astN8 {v0 v1 v2 v3 v4 v5 v6 v7 : Option Value} {o : Option Value} {r : List (Option Value)}  (hd : decode mi.2.1 pc = .ok (.astore 8, 2)) (hn : 8 < mi.2.2.1) (hf : lc_fr (v0 :: v1 :: v2 :: v3 :: v4 :: v5 :: v6 :: v7 :: o :: r) 8 = true) (kk : WP G mi d mc ms res M' (pc + 2) (v0 :: v1 :: v2 :: v3 :: v4 :: v5 :: v6 :: v7 :: some (.null) :: r) st M k n) : WP G mi d mc ms res M' pc (v0 :: v1 :: v2 :: v3 :: v4 :: v5 :: v6 :: v7 :: o :: r) (.null :: st) M k n := fun p e s m args below meth c H locs ls hc hM hS hl => lv_astoreN hc.1 hc.2.1 hd (lc_asc hl) hn rfl (fun ls hl2 => kk p e s m args below meth c H locs ls hc hM hS (lc_put hf hl2))
theorem wp_iinc8 {v0 v1 v2 v3 v4 v5 v6 v7 : Option Value} {r : List (Option Value)} {x : Int32} {z : Int} (hd : decode mi.2.1 pc = .ok (.iinc 8 z, 3)) (hn : 8 < mi.2.2.1) (hf : lc_fr (v0 :: v1 :: v2 :: v3 :: v4 :: v5 :: v6 :: v7 :: some (.int x) :: r) 8 = true) (kk : WP G mi d mc ms res M' (pc + 3) (v0 :: v1 :: v2 :: v3 :: v4 :: v5 :: v6 :: v7 :: some (.int (x + Int32.ofInt z)) :: r) st M k n) : WP G mi d mc ms res M' pc (v0 :: v1 :: v2 :: v3 :: v4 :: v5 :: v6 :: v7 :: some (.int x) :: r) st M k n := fun p e s m args below meth c H locs ls hc hM hS hl => lv_iinc' hc.1 hc.2.1 hd (lc_asc hl) (List.mem_filterMap.mpr ⟨8, List.mem_range.mpr (by simp), rfl⟩) hn (fun ls hl2 => kk p e s m args below meth c H locs ls hc hM hS (lc_put hf hl2))
theorem wp_ild9 {v0 v1 v2 v3 v4 v5 v6 v7 v8 : Option Value} {r : List (Option Value)} {x : Int32} (hd : decode mi.2.1 pc = .ok (.iload 9, 2)) (kk : WP G mi d mc ms res M' (pc + 2) (v0 :: v1 :: v2 :: v3 :: v4 :: v5 :: v6 :: v7 :: v8 :: some (.int x) :: r) (.int x :: st) M k n) : WP G mi d mc ms res M' pc (v0 :: v1 :: v2 :: v3 :: v4 :: v5 :: v6 :: v7 :: v8 :: some (.int x) :: r) st M k n := fun p e s m args below meth c H locs ls hc hM hS hl => lv_iload hc.1 hc.2.1 hd (lc_get hl rfl) (kk p e s m args below meth c H locs ls hc hM hS hl)
theorem wp_ald9 {v0 v1 v2 v3 v4 v5 v6 v7 v8 : Option Value} {r : List (Option Value)} {x : Nat} (hd : decode mi.2.1 pc = .ok (.aload 9, 2)) (kk : WP G mi d mc ms res M' (pc + 2) (v0 :: v1 :: v2 :: v3 :: v4 :: v5 :: v6 :: v7 :: v8 :: some (.ref x) :: r) (.ref x :: st) M k n) : WP G mi d mc ms res M' pc (v0 :: v1 :: v2 :: v3 :: v4 :: v5 :: v6 :: v7 :: v8 :: some (.ref x) :: r) st M k n := fun p e s m args below meth c H locs ls hc hM hS hl => lv_aload hc.1 hc.2.1 hd (lc_get hl rfl) (kk p e s m args below meth c H locs ls hc hM hS hl)
theorem wp_aldN9 {v0 v1 v2 v3 v4 v5 v6 v7 v8 : Option Value} {r : List (Option Value)}  (hd : decode mi.2.1 pc = .ok (.aload 9, 2)) (kk : WP G mi d mc ms res M' (pc + 2) (v0 :: v1 :: v2 :: v3 :: v4 :: v5 :: v6 :: v7 :: v8 :: some (.null) :: r) (.null :: st) M k n) : WP G mi d mc ms res M' pc (v0 :: v1 :: v2 :: v3 :: v4 :: v5 :: v6 :: v7 :: v8 :: some (.null) :: r) st M k n := fun p e s m args below meth c H locs ls hc hM hS hl => lv_aloadN hc.1 hc.2.1 hd (lc_get hl rfl) (kk p e s m args below meth c H locs ls hc hM hS hl)
theorem wp_lld9 {v0 v1 v2 v3 v4 v5 v6 v7 v8 : Option Value} {r : List (Option Value)} {x : Int64} (hd : decode mi.2.1 pc = .ok (.lload 9, 2)) (kk : WP G mi d mc ms res M' (pc + 2) (v0 :: v1 :: v2 :: v3 :: v4 :: v5 :: v6 :: v7 :: v8 :: some (.long x) :: r) (.long x :: st) M k n) : WP G mi d mc ms res M' pc (v0 :: v1 :: v2 :: v3 :: v4 :: v5 :: v6 :: v7 :: v8 :: some (.long x) :: r) st M k n := fun p e s m args below meth c H locs ls hc hM hS hl => lv_lload hc.1 hc.2.1 hd (lc_get hl rfl) (kk p e s m args below meth c H locs ls hc hM hS hl)
theorem wp_ist9 {v0 v1 v2 v3 v4 v5 v6 v7 v8 : Option Value} {o : Option Value} {r : List (Option Value)} {x : Int32} (hd : decode mi.2.1 pc = .ok (.istore 9, 2)) (hn : 9 < mi.2.2.1) (hf : lc_fr (v0 :: v1 :: v2 :: v3 :: v4 :: v5 :: v6 :: v7 :: v8 :: o :: r) 9 = true) (kk : WP G mi d mc ms res M' (pc + 2) (v0 :: v1 :: v2 :: v3 :: v4 :: v5 :: v6 :: v7 :: v8 :: some (.int x) :: r) st M k n) : WP G mi d mc ms res M' pc (v0 :: v1 :: v2 :: v3 :: v4 :: v5 :: v6 :: v7 :: v8 :: o :: r) (.int x :: st) M k n := fun p e s m args below meth c H locs ls hc hM hS hl => lv_istore hc.1 hc.2.1 hd (lc_asc hl) hn rfl (fun ls hl2 => kk p e s m args below meth c H locs ls hc hM hS (lc_put hf hl2))
theorem wp_ast9 {v0 v1 v2 v3 v4 v5 v6 v7 v8 : Option Value} {o : Option Value} {r : List (Option Value)} {x : Nat} (hd : decode mi.2.1 pc = .ok (.astore 9, 2)) (hn : 9 < mi.2.2.1) (hf : lc_fr (v0 :: v1 :: v2 :: v3 :: v4 :: v5 :: v6 :: v7 :: v8 :: o :: r) 9 = true) (kk : WP G mi d mc ms res M' (pc + 2) (v0 :: v1 :: v2 :: v3 :: v4 :: v5 :: v6 :: v7 :: v8 :: some (.ref x) :: r) st M k n) : WP G mi d mc ms res M' pc (v0 :: v1 :: v2 :: v3 :: v4 :: v5 :: v6 :: v7 :: v8 :: o :: r) (.ref x :: st) M k n := fun p e s m args below meth c H locs ls hc hM hS hl => lv_astore hc.1 hc.2.1 hd (lc_asc hl) hn rfl (fun ls hl2 => kk p e s m args below meth c H locs ls hc hM hS (lc_put hf hl2))
theorem wp_astN9 {v0 v1 v2 v3 v4 v5 v6 v7 v8 : Option Value} {o : Option Value} {r : List (Option Value)}  (hd : decode mi.2.1 pc = .ok (.astore 9, 2)) (hn : 9 < mi.2.2.1) (hf : lc_fr (v0 :: v1 :: v2 :: v3 :: v4 :: v5 :: v6 :: v7 :: v8 :: o :: r) 9 = true) (kk : WP G mi d mc ms res M' (pc + 2) (v0 :: v1 :: v2 :: v3 :: v4 :: v5 :: v6 :: v7 :: v8 :: some (.null) :: r) st M k n) : WP G mi d mc ms res M' pc (v0 :: v1 :: v2 :: v3 :: v4 :: v5 :: v6 :: v7 :: v8 :: o :: r) (.null :: st) M k n := fun p e s m args below meth c H locs ls hc hM hS hl => lv_astoreN hc.1 hc.2.1 hd (lc_asc hl) hn rfl (fun ls hl2 => kk p e s m args below meth c H locs ls hc hM hS (lc_put hf hl2))
theorem wp_iinc9 {v0 v1 v2 v3 v4 v5 v6 v7 v8 : Option Value} {r : List (Option Value)} {x : Int32} {z : Int} (hd : decode mi.2.1 pc = .ok (.iinc 9 z, 3)) (hn : 9 < mi.2.2.1) (hf : lc_fr (v0 :: v1 :: v2 :: v3 :: v4 :: v5 :: v6 :: v7 :: v8 :: some (.int x) :: r) 9 = true) (kk : WP G mi d mc ms res M' (pc + 3) (v0 :: v1 :: v2 :: v3 :: v4 :: v5 :: v6 :: v7 :: v8 :: some (.int (x + Int32.ofInt z)) :: r) st M k n) : WP G mi d mc ms res M' pc (v0 :: v1 :: v2 :: v3 :: v4 :: v5 :: v6 :: v7 :: v8 :: some (.int x) :: r) st M k n := fun p e s m args below meth c H locs ls hc hM hS hl => lv_iinc' hc.1 hc.2.1 hd (lc_asc hl) (List.mem_filterMap.mpr ⟨9, List.mem_range.mpr (by simp), rfl⟩) hn (fun ls hl2 => kk p e s m args below meth c H locs ls hc hM hS (lc_put hf hl2))
theorem wp_ild10 {v0 v1 v2 v3 v4 v5 v6 v7 v8 v9 : Option Value} {r : List (Option Value)} {x : Int32} (hd : decode mi.2.1 pc = .ok (.iload 10, 2)) (kk : WP G mi d mc ms res M' (pc + 2) (v0 :: v1 :: v2 :: v3 :: v4 :: v5 :: v6 :: v7 :: v8 :: v9 :: some (.int x) :: r) (.int x :: st) M k n) : WP G mi d mc ms res M' pc (v0 :: v1 :: v2 :: v3 :: v4 :: v5 :: v6 :: v7 :: v8 :: v9 :: some (.int x) :: r) st M k n := fun p e s m args below meth c H locs ls hc hM hS hl => lv_iload hc.1 hc.2.1 hd (lc_get hl rfl) (kk p e s m args below meth c H locs ls hc hM hS hl)
theorem wp_ald10 {v0 v1 v2 v3 v4 v5 v6 v7 v8 v9 : Option Value} {r : List (Option Value)} {x : Nat} (hd : decode mi.2.1 pc = .ok (.aload 10, 2)) (kk : WP G mi d mc ms res M' (pc + 2) (v0 :: v1 :: v2 :: v3 :: v4 :: v5 :: v6 :: v7 :: v8 :: v9 :: some (.ref x) :: r) (.ref x :: st) M k n) : WP G mi d mc ms res M' pc (v0 :: v1 :: v2 :: v3 :: v4 :: v5 :: v6 :: v7 :: v8 :: v9 :: some (.ref x) :: r) st M k n := fun p e s m args below meth c H locs ls hc hM hS hl => lv_aload hc.1 hc.2.1 hd (lc_get hl rfl) (kk p e s m args below meth c H locs ls hc hM hS hl)
theorem wp_aldN10 {v0 v1 v2 v3 v4 v5 v6 v7 v8 v9 : Option Value} {r : List (Option Value)}  (hd : decode mi.2.1 pc = .ok (.aload 10, 2)) (kk : WP G mi d mc ms res M' (pc + 2) (v0 :: v1 :: v2 :: v3 :: v4 :: v5 :: v6 :: v7 :: v8 :: v9 :: some (.null) :: r) (.null :: st) M k n) : WP G mi d mc ms res M' pc (v0 :: v1 :: v2 :: v3 :: v4 :: v5 :: v6 :: v7 :: v8 :: v9 :: some (.null) :: r) st M k n := fun p e s m args below meth c H locs ls hc hM hS hl => lv_aloadN hc.1 hc.2.1 hd (lc_get hl rfl) (kk p e s m args below meth c H locs ls hc hM hS hl)
theorem wp_lld10 {v0 v1 v2 v3 v4 v5 v6 v7 v8 v9 : Option Value} {r : List (Option Value)} {x : Int64} (hd : decode mi.2.1 pc = .ok (.lload 10, 2)) (kk : WP G mi d mc ms res M' (pc + 2) (v0 :: v1 :: v2 :: v3 :: v4 :: v5 :: v6 :: v7 :: v8 :: v9 :: some (.long x) :: r) (.long x :: st) M k n) : WP G mi d mc ms res M' pc (v0 :: v1 :: v2 :: v3 :: v4 :: v5 :: v6 :: v7 :: v8 :: v9 :: some (.long x) :: r) st M k n := fun p e s m args below meth c H locs ls hc hM hS hl => lv_lload hc.1 hc.2.1 hd (lc_get hl rfl) (kk p e s m args below meth c H locs ls hc hM hS hl)
theorem wp_ist10 {v0 v1 v2 v3 v4 v5 v6 v7 v8 v9 : Option Value} {o : Option Value} {r : List (Option Value)} {x : Int32} (hd : decode mi.2.1 pc = .ok (.istore 10, 2)) (hn : 10 < mi.2.2.1) (hf : lc_fr (v0 :: v1 :: v2 :: v3 :: v4 :: v5 :: v6 :: v7 :: v8 :: v9 :: o :: r) 10 = true) (kk : WP G mi d mc ms res M' (pc + 2) (v0 :: v1 :: v2 :: v3 :: v4 :: v5 :: v6 :: v7 :: v8 :: v9 :: some (.int x) :: r) st M k n) : WP G mi d mc ms res M' pc (v0 :: v1 :: v2 :: v3 :: v4 :: v5 :: v6 :: v7 :: v8 :: v9 :: o :: r) (.int x :: st) M k n := fun p e s m args below meth c H locs ls hc hM hS hl => lv_istore hc.1 hc.2.1 hd (lc_asc hl) hn rfl (fun ls hl2 => kk p e s m args below meth c H locs ls hc hM hS (lc_put hf hl2))
theorem wp_ast10 {v0 v1 v2 v3 v4 v5 v6 v7 v8 v9 : Option Value} {o : Option Value} {r : List (Option Value)} {x : Nat} (hd : decode mi.2.1 pc = .ok (.astore 10, 2)) (hn : 10 < mi.2.2.1) (hf : lc_fr (v0 :: v1 :: v2 :: v3 :: v4 :: v5 :: v6 :: v7 :: v8 :: v9 :: o :: r) 10 = true) (kk : WP G mi d mc ms res M' (pc + 2) (v0 :: v1 :: v2 :: v3 :: v4 :: v5 :: v6 :: v7 :: v8 :: v9 :: some (.ref x) :: r) st M k n) : WP G mi d mc ms res M' pc (v0 :: v1 :: v2 :: v3 :: v4 :: v5 :: v6 :: v7 :: v8 :: v9 :: o :: r) (.ref x :: st) M k n := fun p e s m args below meth c H locs ls hc hM hS hl => lv_astore hc.1 hc.2.1 hd (lc_asc hl) hn rfl (fun ls hl2 => kk p e s m args below meth c H locs ls hc hM hS (lc_put hf hl2))
theorem wp_astN10 {v0 v1 v2 v3 v4 v5 v6 v7 v8 v9 : Option Value} {o : Option Value} {r : List (Option Value)}  (hd : decode mi.2.1 pc = .ok (.astore 10, 2)) (hn : 10 < mi.2.2.1) (hf : lc_fr (v0 :: v1 :: v2 :: v3 :: v4 :: v5 :: v6 :: v7 :: v8 :: v9 :: o :: r) 10 = true) (kk : WP G mi d mc ms res M' (pc + 2) (v0 :: v1 :: v2 :: v3 :: v4 :: v5 :: v6 :: v7 :: v8 :: v9 :: some (.null) :: r) st M k n) : WP G mi d mc ms res M' pc (v0 :: v1 :: v2 :: v3 :: v4 :: v5 :: v6 :: v7 :: v8 :: v9 :: o :: r) (.null :: st) M k n := fun p e s m args below meth c H locs ls hc hM hS hl => lv_astoreN hc.1 hc.2.1 hd (lc_asc hl) hn rfl (fun ls hl2 => kk p e s m args below meth c H locs ls hc hM hS (lc_put hf hl2))
theorem wp_iinc10 {v0 v1 v2 v3 v4 v5 v6 v7 v8 v9 : Option Value} {r : List (Option Value)} {x : Int32} {z : Int} (hd : decode mi.2.1 pc = .ok (.iinc 10 z, 3)) (hn : 10 < mi.2.2.1) (hf : lc_fr (v0 :: v1 :: v2 :: v3 :: v4 :: v5 :: v6 :: v7 :: v8 :: v9 :: some (.int x) :: r) 10 = true) (kk : WP G mi d mc ms res M' (pc + 3) (v0 :: v1 :: v2 :: v3 :: v4 :: v5 :: v6 :: v7 :: v8 :: v9 :: some (.int (x + Int32.ofInt z)) :: r) st M k n) : WP G mi d mc ms res M' pc (v0 :: v1 :: v2 :: v3 :: v4 :: v5 :: v6 :: v7 :: v8 :: v9 :: some (.int x) :: r) st M k n := fun p e s m args below meth c H locs ls hc hM hS hl => lv_iinc' hc.1 hc.2.1 hd (lc_asc hl) (List.mem_filterMap.mpr ⟨10, List.mem_range.mpr (by simp), rfl⟩) hn (fun ls hl2 => kk p e s m args below meth c H locs ls hc hM hS (lc_put hf hl2))
theorem wp_ild11 {v0 v1 v2 v3 v4 v5 v6 v7 v8 v9 v10 : Option Value} {r : List (Option Value)} {x : Int32} (hd : decode mi.2.1 pc = .ok (.iload 11, 2)) (kk : WP G mi d mc ms res M' (pc + 2) (v0 :: v1 :: v2 :: v3 :: v4 :: v5 :: v6 :: v7 :: v8 :: v9 :: v10 :: some (.int x) :: r) (.int x :: st) M k n) : WP G mi d mc ms res M' pc (v0 :: v1 :: v2 :: v3 :: v4 :: v5 :: v6 :: v7 :: v8 :: v9 :: v10 :: some (.int x) :: r) st M k n := fun p e s m args below meth c H locs ls hc hM hS hl => lv_iload hc.1 hc.2.1 hd (lc_get hl rfl) (kk p e s m args below meth c H locs ls hc hM hS hl)
theorem wp_ald11 {v0 v1 v2 v3 v4 v5 v6 v7 v8 v9 v10 : Option Value} {r : List (Option Value)} {x : Nat} (hd : decode mi.2.1 pc = .ok (.aload 11, 2)) (kk : WP G mi d mc ms res M' (pc + 2) (v0 :: v1 :: v2 :: v3 :: v4 :: v5 :: v6 :: v7 :: v8 :: v9 :: v10 :: some (.ref x) :: r) (.ref x :: st) M k n) : WP G mi d mc ms res M' pc (v0 :: v1 :: v2 :: v3 :: v4 :: v5 :: v6 :: v7 :: v8 :: v9 :: v10 :: some (.ref x) :: r) st M k n := fun p e s m args below meth c H locs ls hc hM hS hl => lv_aload hc.1 hc.2.1 hd (lc_get hl rfl) (kk p e s m args below meth c H locs ls hc hM hS hl)
theorem wp_aldN11 {v0 v1 v2 v3 v4 v5 v6 v7 v8 v9 v10 : Option Value} {r : List (Option Value)}  (hd : decode mi.2.1 pc = .ok (.aload 11, 2)) (kk : WP G mi d mc ms res M' (pc + 2) (v0 :: v1 :: v2 :: v3 :: v4 :: v5 :: v6 :: v7 :: v8 :: v9 :: v10 :: some (.null) :: r) (.null :: st) M k n) : WP G mi d mc ms res M' pc (v0 :: v1 :: v2 :: v3 :: v4 :: v5 :: v6 :: v7 :: v8 :: v9 :: v10 :: some (.null) :: r) st M k n := fun p e s m args below meth c H locs ls hc hM hS hl => lv_aloadN hc.1 hc.2.1 hd (lc_get hl rfl) (kk p e s m args below meth c H locs ls hc hM hS hl)
theorem wp_lld11 {v0 v1 v2 v3 v4 v5 v6 v7 v8 v9 v10 : Option Value} {r : List (Option Value)} {x : Int64} (hd : decode mi.2.1 pc = .ok (.lload 11, 2)) (kk : WP G mi d mc ms res M' (pc + 2) (v0 :: v1 :: v2 :: v3 :: v4 :: v5 :: v6 :: v7 :: v8 :: v9 :: v10 :: some (.long x) :: r) (.long x :: st) M k n) : WP G mi d mc ms res M' pc (v0 :: v1 :: v2 :: v3 :: v4 :: v5 :: v6 :: v7 :: v8 :: v9 :: v10 :: some (.long x) :: r) st M k n := fun p e s m args below meth c H locs ls hc hM hS hl => lv_lload hc.1 hc.2.1 hd (lc_get hl rfl) (kk p e s m args below meth c H locs ls hc hM hS hl)
theorem wp_ist11 {v0 v1 v2 v3 v4 v5 v6 v7 v8 v9 v10 : Option Value} {o : Option Value} {r : List (Option Value)} {x : Int32} (hd : decode mi.2.1 pc = .ok (.istore 11, 2)) (hn : 11 < mi.2.2.1) (hf : lc_fr (v0 :: v1 :: v2 :: v3 :: v4 :: v5 :: v6 :: v7 :: v8 :: v9 :: v10 :: o :: r) 11 = true) (kk : WP G mi d mc ms res M' (pc + 2) (v0 :: v1 :: v2 :: v3 :: v4 :: v5 :: v6 :: v7 :: v8 :: v9 :: v10 :: some (.int x) :: r) st M k n) : WP G mi d mc ms res M' pc (v0 :: v1 :: v2 :: v3 :: v4 :: v5 :: v6 :: v7 :: v8 :: v9 :: v10 :: o :: r) (.int x :: st) M k n := fun p e s m args below meth c H locs ls hc hM hS hl => lv_istore hc.1 hc.2.1 hd (lc_asc hl) hn rfl (fun ls hl2 => kk p e s m args below meth c H locs ls hc hM hS (lc_put hf hl2))
theorem wp_ast11 {v0 v1 v2 v3 v4 v5 v6 v7 v8 v9 v10 : Option Value} {o : Option Value} {r : List (Option Value)} {x : Nat} (hd : decode mi.2.1 pc = .ok (.astore 11, 2)) (hn : 11 < mi.2.2.1) (hf : lc_fr (v0 :: v1 :: v2 :: v3 :: v4 :: v5 :: v6 :: v7 :: v8 :: v9 :: v10 :: o :: r) 11 = true) (kk : WP G mi d mc ms res M' (pc + 2) (v0 :: v1 :: v2 :: v3 :: v4 :: v5 :: v6 :: v7 :: v8 :: v9 :: v10 :: some (.ref x) :: r) st M k n) : WP G mi d mc ms res M' pc (v0 :: v1 :: v2 :: v3 :: v4 :: v5 :: v6 :: v7 :: v8 :: v9 :: v10 :: o :: r) (.ref x :: st) M k n := fun p e s m args below meth c H locs ls hc hM hS hl => lv_astore hc.1 hc.2.1 hd (lc_asc hl) hn rfl (fun ls hl2 => kk p e s m args below meth c H locs ls hc hM hS (lc_put hf hl2))
theorem wp_astN11 {v0 v1 v2 v3 v4 v5 v6 v7 v8 v9 v10 : Option Value} {o : Option Value} {r : List (Option Value)}  (hd : decode mi.2.1 pc = .ok (.astore 11, 2)) (hn : 11 < mi.2.2.1) (hf : lc_fr (v0 :: v1 :: v2 :: v3 :: v4 :: v5 :: v6 :: v7 :: v8 :: v9 :: v10 :: o :: r) 11 = true) (kk : WP G mi d mc ms res M' (pc + 2) (v0 :: v1 :: v2 :: v3 :: v4 :: v5 :: v6 :: v7 :: v8 :: v9 :: v10 :: some (.null) :: r) st M k n) : WP G mi d mc ms res M' pc (v0 :: v1 :: v2 :: v3 :: v4 :: v5 :: v6 :: v7 :: v8 :: v9 :: v10 :: o :: r) (.null :: st) M k n := fun p e s m args below meth c H locs ls hc hM hS hl => lv_astoreN hc.1 hc.2.1 hd (lc_asc hl) hn rfl (fun ls hl2 => kk p e s m args below meth c H locs ls hc hM hS (lc_put hf hl2))
theorem wp_iinc11 {v0 v1 v2 v3 v4 v5 v6 v7 v8 v9 v10 : Option Value} {r : List (Option Value)} {x : Int32} {z : Int} (hd : decode mi.2.1 pc = .ok (.iinc 11 z, 3)) (hn : 11 < mi.2.2.1) (hf : lc_fr (v0 :: v1 :: v2 :: v3 :: v4 :: v5 :: v6 :: v7 :: v8 :: v9 :: v10 :: some (.int x) :: r) 11 = true) (kk : WP G mi d mc ms res M' (pc + 3) (v0 :: v1 :: v2 :: v3 :: v4 :: v5 :: v6 :: v7 :: v8 :: v9 :: v10 :: some (.int (x + Int32.ofInt z)) :: r) st M k n) : WP G mi d mc ms res M' pc (v0 :: v1 :: v2 :: v3 :: v4 :: v5 :: v6 :: v7 :: v8 :: v9 :: v10 :: some (.int x) :: r) st M k n := fun p e s m args below meth c H locs ls hc hM hS hl => lv_iinc' hc.1 hc.2.1 hd (lc_asc hl) (List.mem_filterMap.mpr ⟨11, List.mem_range.mpr (by simp), rfl⟩) hn (fun ls hl2 => kk p e s m args below meth c H locs ls hc hM hS (lc_put hf hl2))
end WPR
end
section
/-- a field of a class of the world, by its place in the pool of 'own' -/
def FldOK (own : String) (idx ci f : Nat) : Prop := ∃ (C : String) (T : u_T) (N : Nat), vwCl[ci]? = some (C, T, N) ∧ f < N ∧ (∀ w ∈ u_ws C T N, w ∈ lw_g) ∧ Cond.fieldLink own idx (T f).1 (T f).2.1 (T f).2.2.1 ∈ lw_g
/-- .. that may be stored in: ty its type, fin whether it is final -/
def PutOK (own : String) (idx ci f : Nat) (ty : FieldType) (fin : Bool) : Prop := ∃ (C : String) (T : u_T) (N : Nat) (ty0 : Nat → FieldType), vwCl[ci]? = some (C, T, N) ∧ f < N ∧ (∀ w ∈ u_ws C T N, w ∈ lw_g) ∧ Cond.fieldLink own idx (T f).1 (T f).2.1 (T f).2.2.1 ∈ lw_g ∧ (∀ k, k < N → parseFieldDescriptor (T k).2.2.1 = some (ty0 k)) ∧ (∀ a, a < N → ∀ b, b < N → a ≠ b → (T a).2.1 ≠ (T b).2.1) ∧ (T f).2.2.2 = fin ∧ parseFieldDescriptor (T f).2.2.1 = some ty ∧ (fin = true → (T f).1 = own)
def ups (M : Mem) (a : Nat) (e : va_E) : Mem := (M.1, va_up M.2.1 a e, M.2.2)
section WPM
variable {G : GG} {mi : MI} {d mc ms : Nat} {res : Option Value} {M' : Mem} {pc : Nat} {lc : List (Option Value)} {st : List Value} {M : Mem} {k n : Nat}
theorem wp_get {idx ci f a : Nat} {fs : List Value} {v : Value} (hd : decode mi.2.1 pc = .ok (.getfield idx, 3)) (hk : FldOK mi.1 idx ci f) (hL : a ∈ M.1) (hE : M.2.1 a = .inr (ci, fs)) (hv : fs[f]? = some v) (kk : WP G mi d mc ms res M' (pc + 3) lc (v :: st) M k n) : WP G mi d mc ms res M' pc lc (.ref a :: st) M k n := by
  intro p e s m args below meth c H locs ls hc hM hS hl
  obtain ⟨C, T, N, h1, h2, h3, h4⟩ := hk
  obtain ⟨q, hq⟩ := mpl_get hL
  rw [hE] at hq
  exact va_get (C := C) (T := T) (N := N) (ci := ci) (index := idx) (ref := (T f).1) hc.1 hc.2.1 hc.2.2.2.2.2.2.2.1 h3 hc.2.2.2.2.2.2.1 hc.2.2.2.2.2.2.2.2.1 hM.2.1 q hq h1 f h2 (hc.2.2.2.2.2.2.2.1 _ h4) (fun x h => h) hv hd (kk p e s m args below meth c H locs ls hc hM hS hl)
theorem wp_getN {a : Nat} {fs : List Value} {v : Value} (hown : mi.1 = "LockSimulator$Lock") (hd : decode mi.2.1 pc = .ok (.getfield 63, 3)) (hw : ∀ w ∈ u_ws RX2 TX2 2, w ∈ lw_g) (hL : a ∈ M.1) (hE : M.2.1 a = .inr (3, fs)) (hv : fs[1]? = some v) (kk : WP G mi d mc ms res M' (pc + 3) lc (v :: st) M k n) : WP G mi d mc ms res M' pc lc (.ref a :: st) M k n := by
  intro p e s m args below meth c H locs ls hc hM hS hl
  obtain ⟨q, hq⟩ := mpl_get hL
  rw [hE] at hq
  exact va_getN (C := RX2) (T := TX2) (N := 2) (ci := 3) (index := 63) (ref := "LockSimulator$Line") (host := "LockSimulator") hc.1 hc.2.1 hc.2.2.2.2.2.2.2.1 hw (own := "LockSimulator$Lock") (by rw [← hown]; exact hc.2.2.2.2.2.2.1) hc.2.2.2.2.2.2.2.2.1 hM.2.1 q hq rfl 1 (by decide) (va_Nw.use rfl hc.2.2.2.2.2.2.2.2.2.2.2.2.2.2.2.1) (fun x h => h) hv hd (kk p e s m args below meth c H locs ls hc hM hS hl)
theorem HM.setz {a q : Nat} {e : va_E} {H H1 : Heap} (hM : HM G M H) (hL : a ∈ M.1) (hq : (mpl M)[q]? = some (a, M.2.1 a)) (hz : H1.size = H.size) (hP : va_P (gD G) vwCl ((mpl M).set q (a, e)) H1) (hD : va_D (gA G) ((mpl M).set q (a, e))) : HM G (ups M a e) H1 := by
  rw [mpl_set hM.2.2 hL hq] at hP hD
  exact ⟨hz.trans hM.1, hP, hD⟩
theorem wp_put {idx ci f a : Nat} {ty : FieldType} {fs : List Value} {v : Value} (hd : decode mi.2.1 pc = .ok (.putfield idx, 3)) (hk : PutOK mi.1 idx ci f ty false) (hL : a ∈ M.1) (hE : M.2.1 a = .inr (ci, fs)) (hl' : f < fs.length) (hn : narrow ty v = v) (hfit : fits ty v = true) (kk : WP G mi d mc ms res M' (pc + 3) lc st (ups M a (.inr (ci, fs.set f v))) k n) : WP G mi d mc ms res M' pc lc (v :: .ref a :: st) M k n := by
  intro p e s m args below meth c H locs ls hc hM hS hl
  obtain ⟨C, T, N, ty0, h1, h2, h3, h4, h5, h6, h7, h8, -⟩ := hk
  obtain ⟨q, hq⟩ := mpl_get hL
  have hq' := hq
  rw [hE] at hq'
  exact z_put (C := C) (T := T) (N := N) (ci := ci) (index := idx) (ref := (T f).1) hc.1 hc.2.1 hc.2.2.2.2.2.2.2.1 h3 ty0 h5 h6 hc.2.2.2.2.2.2.1 hc.2.2.2.2.2.2.2.2.1 hM.2.1 hM.2.2 hS q hq' h1 f h2 (hc.2.2.2.2.2.2.2.1 _ h4) (fun x h => h) h7 h8 hn hfit hl' hd (fun H1 locs1 hz hP hD hS1 => kk p e s m args below meth c H1 locs1 ls hc (hM.setz hL hq hz hP hD) hS1 hl)
theorem wp_putF {idx ci f a : Nat} {ty : FieldType} {fs : List Value} {v : Value} (hini : mi.2.2.2.2 = true) (hd : decode mi.2.1 pc = .ok (.putfield idx, 3)) (hk : PutOK mi.1 idx ci f ty true) (hL : a ∈ M.1) (hE : M.2.1 a = .inr (ci, fs)) (hl' : f < fs.length) (hn : narrow ty v = v) (hfit : fits ty v = true) (kk : WP G mi d mc ms res M' (pc + 3) lc st (ups M a (.inr (ci, fs.set f v))) k n) : WP G mi d mc ms res M' pc lc (v :: .ref a :: st) M k n := by
  intro p e s m args below meth c H locs ls hc hM hS hl
  obtain ⟨C, T, N, ty0, h1, h2, h3, h4, h5, h6, h7, h8, h9⟩ := hk
  obtain ⟨q, hq⟩ := mpl_get hL
  have hq' := hq
  rw [hE] at hq'
  exact z_putF (C := C) (T := T) (N := N) (ci := ci) (index := idx) (ref := (T f).1) hc.1 hc.2.1 hc.2.2.2.2.2.2.2.1 h3 ty0 h5 h6 hc.2.2.2.2.2.2.1 hc.2.2.2.2.2.2.2.2.1 hM.2.1 hM.2.2 hS q hq' h1 f h2 (hc.2.2.2.2.2.2.2.1 _ h4) (fun x h => h) h7 (hc.2.2.2.2.2.1 hini) (h9 rfl) h8 hn hfit hl' hd (fun H1 locs1 hz hP hD hS1 => kk p e s m args below meth c H1 locs1 ls hc (hM.setz hL hq hz hP hD) hS1 hl)
theorem wp_gets {idx : Nat} {C nm ds : String} {v : Value} (hd : decode mi.2.1 pc = .ok (.getstatic idx, 3)) (hz : (C, nm, ds, v) ∈ gZ G) (hw : Cond.fieldLink mi.1 idx C nm ds ∈ lw_g) (kk : WP G mi d mc ms res M' (pc + 3) lc (v :: st) M k n) : WP G mi d mc ms res M' pc lc st M k n := by
  intro p e s m args below meth c H locs ls hc hM hS hl
  exact va_gets (C := C) (n := nm) (d := ds) (ref := C) (index := idx) hc.1 hc.2.1 (hc.2.2.2.2.2.2.2.2.2.2.1 _ hz) hS hc.2.2.2.2.2.2.1 (hc.2.2.2.2.2.2.2.1 _ hw) (fun x h => h) hd (kk p e s m args below meth c H locs ls hc hM hS hl)
theorem wp_iald {a t : Nat} {cA : ClassId} {z : Nat} {f : Nat → Int32} {i : Int32} {v : Int32} (hd : decode mi.2.1 pc = .ok (.iaload, 1)) (ht : (gT G)[t]? = some (cA, .int)) (hL : a ∈ M.1) (hE : M.2.1 a = .inl (cA, z, .inl f)) (hin : vp_in i z) (hv : f i.toNatClampNeg = v) (kk : WP G mi d mc ms res M' (pc + 1) lc (.int v :: st) M k n) : WP G mi d mc ms res M' pc lc (.int i :: .ref a :: st) M k n := by
  intro p e s m args below meth c H locs ls hc hM hS hl
  obtain ⟨q, hq⟩ := mpl_get hL
  rw [hE] at hq
  subst hv
  exact va_iald hc.1 hc.2.1 hc.2.2.2.2.2.2.2.2.1 hM.2.1 q t hq ht hin hd (kk p e s m args below meth c H locs ls hc hM hS hl)
theorem wp_bald {a t : Nat} {cA : ClassId} {z : Nat} {f : Nat → Int32} {i : Int32} {v : Int32} (hd : decode mi.2.1 pc = .ok (.baload, 1)) (ht : (gT G)[t]? = some (cA, .byte)) (hL : a ∈ M.1) (hE : M.2.1 a = .inl (cA, z, .inl f)) (hin : vp_in i z) (hv : f i.toNatClampNeg = v) (kk : WP G mi d mc ms res M' (pc + 1) lc (.int v :: st) M k n) : WP G mi d mc ms res M' pc lc (.int i :: .ref a :: st) M k n := by
  intro p e s m args below meth c H locs ls hc hM hS hl
  obtain ⟨q, hq⟩ := mpl_get hL
  rw [hE] at hq
  subst hv
  exact va_bald hc.1 hc.2.1 hc.2.2.2.2.2.2.2.2.1 hM.2.1 q t hq ht hin hd (kk p e s m args below meth c H locs ls hc hM hS hl)
theorem wp_iast {a t : Nat} {cA : ClassId} {z : Nat} {f : Nat → Int32} {i x : Int32} (hd : decode mi.2.1 pc = .ok (.iastore, 1)) (ht : (gT G)[t]? = some (cA, .int)) (hL : a ∈ M.1) (hE : M.2.1 a = .inl (cA, z, .inl f)) (hin : vp_in i z) (kk : WP G mi d mc ms res M' (pc + 1) lc st (ups M a (.inl (cA, z, .inl (upd f i.toNatClampNeg x)))) k n) : WP G mi d mc ms res M' pc lc (.int x :: .int i :: .ref a :: st) M k n := by
  intro p e s m args below meth c H locs ls hc hM hS hl
  obtain ⟨q, hq⟩ := mpl_get hL
  have hq' := hq
  rw [hE] at hq'
  exact z_iast hc.1 hc.2.1 hc.2.2.2.2.2.2.2.2.1 hM.2.1 hM.2.2 hS q t hq' ht hin hd (fun H1 locs1 hz hP hD hS1 => kk p e s m args below meth c H1 locs1 ls hc (hM.setz hL hq hz hP hD) hS1 hl)
theorem wp_bast {a t : Nat} {cA : ClassId} {z : Nat} {f : Nat → Int32} {i x : Int32} (hd : decode mi.2.1 pc = .ok (.bastore, 1)) (ht : (gT G)[t]? = some (cA, .byte)) (hL : a ∈ M.1) (hE : M.2.1 a = .inl (cA, z, .inl f)) (hin : vp_in i z) (kk : WP G mi d mc ms res M' (pc + 1) lc st (ups M a (.inl (cA, z, .inl (upd f i.toNatClampNeg (vp_nar .byte x))))) k n) : WP G mi d mc ms res M' pc lc (.int x :: .int i :: .ref a :: st) M k n := by
  intro p e s m args below meth c H locs ls hc hM hS hl
  obtain ⟨q, hq⟩ := mpl_get hL
  have hq' := hq
  rw [hE] at hq'
  exact z_bast hc.1 hc.2.1 hc.2.2.2.2.2.2.2.2.1 hM.2.1 hM.2.2 hS q t hq' ht hin hd (fun H1 locs1 hz hP hD hS1 => kk p e s m args below meth c H1 locs1 ls hc (hM.setz hL hq hz hP hD) hS1 hl)
theorem wp_aald {a t : Nat} {cA : ClassId} {C : String} {z : Nat} {f : Nat → Option Nat} {i : Int32} {v : Option Nat} (hd : decode mi.2.1 pc = .ok (.aaload, 1)) (ht : (gT G)[t]? = some (cA, .object C)) (hL : a ∈ M.1) (hE : M.2.1 a = .inl (cA, z, .inr (.inr (.inr (.inr f))))) (hin : vp_in i z) (hv : f i.toNatClampNeg = v) (kk : WP G mi d mc ms res M' (pc + 1) lc (va_rf v :: st) M k n) : WP G mi d mc ms res M' pc lc (.int i :: .ref a :: st) M k n := by
  intro p e s m args below meth c H locs ls hc hM hS hl
  obtain ⟨q, hq⟩ := mpl_get hL
  rw [hE] at hq
  subst hv
  exact va_aldq hc.1 hc.2.1 hc.2.2.2.2.2.2.2.2.1 hM.2.1 q t hq ht hin hd (kk p e s m args below meth c H locs ls hc hM hS hl)
theorem wp_aast {a b t ci : Nat} {cA : ClassId} {r : vw_C} {z : Nat} {vs : List Value} {f : Nat → Option Nat} {i : Int32} (hd : decode mi.2.1 pc = .ok (.aastore, 1)) (ht : (gT G)[t]? = some (cA, .object r.1)) (hL : a ∈ M.1) (hE : M.2.1 a = .inl (cA, z, .inr (.inr (.inr (.inr f))))) (hLb : b ∈ M.1) (hEb : M.2.1 b = .inr (ci, vs)) (hr : vwCl[ci]? = some r) (hin : vp_in i z) (kk : WP G mi d mc ms res M' (pc + 1) lc st (ups M a (.inl (cA, z, .inr (.inr (.inr (.inr (va_up f i.toNatClampNeg (some b)))))))) k n) : WP G mi d mc ms res M' pc lc (.ref b :: .int i :: .ref a :: st) M k n := by
  intro p e s m args below meth c H locs ls hc hM hS hl
  obtain ⟨q, hq⟩ := mpl_get hL
  obtain ⟨qb, hqb⟩ := mpl_get hLb
  have hq' := hq
  rw [hE] at hq'
  rw [hEb] at hqb
  exact z_astq hc.1 hc.2.1 hc.2.2.2.2.2.2.2.2.1 hM.2.1 hM.2.2 hS q t qb ci hq' ht hqb hr hin hd (fun H1 locs1 hz hP hD hS1 => kk p e s m args below meth c H1 locs1 ls hc (hM.setz hL hq hz hP hD) hS1 hl)
theorem wp_alen {a t : Nat} {cA : ClassId} {ty : FieldType} {x : vp_A} {v : Int32} (hd : decode mi.2.1 pc = .ok (.arraylength, 1)) (ht : (gT G)[t]? = some (cA, ty)) (hL : a ∈ M.1) (hE : M.2.1 a = .inl (cA, x)) (hv : Int32.ofNat x.1 = v) (kk : WP G mi d mc ms res M' (pc + 1) lc (.int v :: st) M k n) : WP G mi d mc ms res M' pc lc (.ref a :: st) M k n := by
  intro p e s m args below meth c H locs ls hc hM hS hl
  obtain ⟨q, hq⟩ := mpl_get hL
  rw [hE] at hq
  exact va_alen hc.1 hc.2.1 hc.2.2.2.2.2.2.2.2.1 hM.2.1 q t hq ht hv hd (kk p e s m args below meth c H locs ls hc hM hS hl)
/-- a row of ints that nobody writes -/
theorem wp_tald {a N : Nat} {f : Nat → Value} {i : Int32} {v : Value} (hd : decode mi.2.1 pc = .ok (.iaload, 1)) (hz : (FieldType.int, a, N, f) ∈ gS G) (hin : vp_in i N) (hv : f i.toNatClampNeg = v) (kk : WP G mi d mc ms res M' (pc + 1) lc (v :: st) M k n) : WP G mi d mc ms res M' pc lc (.int i :: .ref a :: st) M k n := by
  intro p e s m args below meth c H locs ls hc hM hS hl
  exact va_ti hc.1 hc.2.1 (hc.2.2.2.2.2.2.2.2.2.2.2.1 _ hz) hS hin hv hd (kk p e s m args below meth c H locs ls hc hM hS hl)
theorem wp_tbld {a N : Nat} {f : Nat → Value} {i : Int32} {v : Value} (hd : decode mi.2.1 pc = .ok (.baload, 1)) (hz : (FieldType.byte, a, N, f) ∈ gS G) (hin : vp_in i N) (hv : f i.toNatClampNeg = v) (kk : WP G mi d mc ms res M' (pc + 1) lc (v :: st) M k n) : WP G mi d mc ms res M' pc lc (.int i :: .ref a :: st) M k n := by
  intro p e s m args below meth c H locs ls hc hM hS hl
  exact va_tb hc.1 hc.2.1 (hc.2.2.2.2.2.2.2.2.2.2.2.1 _ hz) hS hin hv hd (kk p e s m args below meth c H locs ls hc hM hS hl)
theorem wp_tlen {a N : Nat} {ty : FieldType} {f : Nat → Value} {v : Int32} (hd : decode mi.2.1 pc = .ok (.arraylength, 1)) (hz : (ty, a, N, f) ∈ gS G) (hv : Int32.ofNat N = v) (kk : WP G mi d mc ms res M' (pc + 1) lc (.int v :: st) M k n) : WP G mi d mc ms res M' pc lc (.ref a :: st) M k n := by
  intro p e s m args below meth c H locs ls hc hM hS hl
  exact va_tlen hc.1 hc.2.1 (hc.2.2.2.2.2.2.2.2.2.2.2.1 _ hz) hS hv hd (kk p e s m args below meth c H locs ls hc hM hS hl)
/-- a field of an object that nobody writes -/
theorem wp_getO {idx a : Nat} {o nm ds : String} {v : Value} (hd : decode mi.2.1 pc = .ok (.getfield idx, 3)) (hz : (o, nm, ds, v, a) ∈ gF G) (hw : Cond.fieldLink mi.1 idx o nm ds ∈ lw_g) (kk : WP G mi d mc ms res M' (pc + 3) lc (v :: st) M k n) : WP G mi d mc ms res M' pc lc (.ref a :: st) M k n := by
  intro p e s m args below meth c H locs ls hc hM hS hl
  exact vk_getf (o := o) (n := nm) (d := ds) (ref := o) (index := idx) hc.1 hc.2.1 (hc.2.2.2.2.2.2.2.2.2.2.2.2.1 _ hz) hS hc.2.2.2.2.2.2.1 (hc.2.2.2.2.2.2.2.1 _ hw) (fun x h => h) hd (kk p e s m args below meth c H locs ls hc hM hS hl)
/-- ends -/
theorem wp_iret {v : Int32} (hd : decode mi.2.1 pc = .ok (.ireturn, 1)) (hr : mi.2.2.2.1 = some .int) (h1 : k ≤ mc) (h2 : n ≤ ms) (hres : some (.int v) = res) (hm : M = M') : WP G mi d mc ms res M' pc lc [.int v] M k n := by
  intro p e s m args below meth c H locs ls hc hM hS hl
  subst hres; subst hm
  refine W.widen h1 h2 ?_
  exact W.iret hc.1 hc.2.1 (hc.2.2.2.1.trans hr) (fun t ht _ => ⟨rfl, by rw [ht]; exact hM, hS.F ht⟩) hS.2.2 hd hc.2.2.2.2.1
theorem wp_zret {v : Int32} {ty : FieldType} (hd : decode mi.2.1 pc = .ok (.ireturn, 1)) (hr : mi.2.2.2.1 = some ty) (hn : narrow ty (.int v) = .int v) (h1 : k ≤ mc) (h2 : n ≤ ms) (hres : some (.int v) = res) (hm : M = M') : WP G mi d mc ms res M' pc lc [.int v] M k n := by
  intro p e s m args below meth c H locs ls hc hM hS hl
  subst hres; subst hm
  refine W.widen h1 h2 ?_
  exact W.zret hc.1 hc.2.1 (hc.2.2.2.1.trans hr) hn (fun t ht _ => ⟨rfl, by rw [ht]; exact hM, hS.F ht⟩) hS.2.2 hd hc.2.2.2.2.1
theorem wp_vret (hd : decode mi.2.1 pc = .ok (.return_, 1)) (hr : mi.2.2.2.1 = none) (h1 : k ≤ mc) (h2 : n ≤ ms) (hres : none = res) (hm : M = M') : WP G mi d mc ms res M' pc lc [] M k n := by
  intro p e s m args below meth c H locs ls hc hM hS hl
  subst hres; subst hm
  refine W.widen h1 h2 ?_
  exact W.vret hc.1 hc.2.1 (hc.2.2.2.1.trans hr) (fun t ht _ => ⟨rfl, by rw [ht]; exact hM, hS.F ht⟩) hS.2.2 hd hc.2.2.2.2.1
theorem wp_aret {v : Value} {rt : FieldType} (hd : decode mi.2.1 pc = .ok (.areturn, 1)) (hr : mi.2.2.2.1 = some rt) (hrt : (∃ z, rt = .object z) ∨ ∃ t, rt = .array t) (hv : v = .null ∨ ∃ a, v = .ref a) (h1 : k ≤ mc) (h2 : n ≤ ms) (hres : some v = res) (hm : M = M') : WP G mi d mc ms res M' pc lc [v] M k n := by
  intro p e s m args below meth c H locs ls hc hM hS hl
  subst hres; subst hm
  refine W.widen h1 h2 ?_
  exact W.aret hc.1 hc.2.1 (hc.2.2.2.1.trans hr) hrt hv (fun t ht _ => ⟨rfl, by rw [ht]; exact hM, hS.F ht⟩) hS.2.2 hd hc.2.2.2.2.1
theorem wp_lret {v : Int64} (hd : decode mi.2.1 pc = .ok (.lreturn, 1)) (hr : mi.2.2.2.1 = some .long) (h1 : k ≤ mc) (h2 : n ≤ ms) (hres : some (.long v) = res) (hm : M = M') : WP G mi d mc ms res M' pc lc [.long v] M k n := by
  intro p e s m args below meth c H locs ls hc hM hS hl
  subst hres; subst hm
  refine W.widen h1 h2 ?_
  exact W.lret hc.1 hc.2.1 (hc.2.2.2.1.trans hr) (fun t ht _ => ⟨rfl, by rw [ht]; exact hM, hS.F ht⟩) hS.2.2 hd hc.2.2.2.2.1
end WPM
/-! calls -/
def CallV (own : String) (idx : Nat) (y : MethodName) (mj : MI) (np : Nat) : Prop := Cond.methodLink own idx y ∈ lw_g ∧ Cond.instanceMethod y ∈ lw_g ∧ Cond.selects y.cls y y ∈ lw_g ∧ Cond.initialized y.cls ∈ lw_g ∧ Cond.code y mj.2.1 mj.2.2.1 mj.2.2.2.1 ∈ lw_g ∧ (y.cls ≠ "java/lang/invoke/MethodHandle" ∧ y.cls ≠ "java/lang/invoke/VarHandle" ∧ (parseMethodDescriptor y.desc).map (fun d => d.parameters.length) = some np) ∧ mj.2.2.1 ≤ 21
def CallS (own : String) (idx : Nat) (y : MethodName) (mj : MI) (np : Nat) : Prop := Cond.methodLink own idx y ∈ lw_g ∧ Cond.static y ∈ lw_g ∧ Cond.initialized y.cls ∈ lw_g ∧ Cond.code y mj.2.1 mj.2.2.1 mj.2.2.2.1 ∈ lw_g ∧ (y.cls ≠ "java/lang/invoke/MethodHandle" ∧ y.cls ≠ "java/lang/invoke/VarHandle" ∧ (parseMethodDescriptor y.desc).map (fun d => d.parameters.length) = some np) ∧ mj.2.2.1 ≤ 21
def CallI (own : String) (idx : Nat) (y : MethodName) (mj : MI) (np : Nat) : Prop := Cond.methodLink own idx y ∈ lw_g ∧ Cond.instanceMethod y ∈ lw_g ∧ y.name = "<init>" ∧ Cond.initialized y.cls ∈ lw_g ∧ Cond.code y mj.2.1 mj.2.2.1 none ∈ lw_g ∧ (y.cls ≠ "java/lang/invoke/MethodHandle" ∧ y.cls ≠ "java/lang/invoke/VarHandle" ∧ (parseMethodDescriptor y.desc).map (fun d => d.parameters.length) = some np) ∧ mj.2.2.1 ≤ 21 ∧ mj.2.2.2.1 = none
theorem wsO_good {y : MethodName} {mj : MI} (h : Cond.code y mj.2.1 mj.2.2.1 mj.2.2.2.1 ∈ lw_g) : GoodIn lw_g (wsO y mj) := fun w hw => by
  rcases List.mem_cons.mp hw with rfl | hw
  · exact lw_ggood _ h
  · exact lw_ggood _ hw
theorem Ct.blind {G : GG} {as : List Value} {M : Mem} : FrameBlind (va_Pc as (fun U => KX G U ∧ HM G M U.heap)) := fun a U g mk h => ⟨h.1, h.2.1.blind g mk a, h.2.2⟩
section WPC
variable {G : GG} {mi : MI} {d mc ms : Nat} {res : Option Value} {M' : Mem} {pc : Nat} {lc : List (Option Value)} {M : Mem} {k n : Nat}
theorem va_Run.go {p : Program} {e : Env} {s : State} {m : MethodId} {args : Array Value} {below : List Frame} {meth : Method} {c : Code} {H : Heap} {locs : List Loc} {mc' ms' : Nat} {ls : Array Slot} {st rest : List Value} {res1 : Option Value} {M1 : Mem} {Q : State → Prop} {R : Room} {a : Array Value} (hr : va_Run p (gL G) e R s m args below meth c H locs k n mc' ms' (F0 m pc ls st) rest (QQ G res1 M1 a) (gA G)) (hS : va_S (gA G) s.heap H locs)
    (kk : ∀ (H1 : Heap) (locs1 : List Loc), HM G M1 H1 → va_S (gA G) s.heap H1 locs1 → W p (gL G) e R s m args below meth c H1 locs1 (k + mc') (n + ms') Q (F0 m (pc + 3) ls (res1.toList ++ rest))) : W p (gL G) e R s m args below meth c H locs k n Q (F0 m pc ls st) := by
  intro T hT X
  obtain ⟨v, st₀, t, T', L, h0, X', hL, e1, e2, ⟨hv, hM1, hz, hk⟩, stp⟩ := hr T hT X
  cases hv
  rw [h0] at hz hk
  obtain ⟨t2, a1, b1⟩ := kk T'.heap (locs ++ L) (by rw [e1]; exact hM1)
    ⟨Nat.le_trans hS.1 (by rw [e1]; exact hz), fun q h1 h2 => by rw [e1, hk q (Nat.lt_of_lt_of_le h1 hS.1) h2]; exact hS.2.1 q h1 h2, fun q hq => by
      rcases List.mem_append.mp hq with h | h
      · exact hS.2.2 q h
      · exact hL q h⟩ T' rfl X'
  exact ⟨t2, stp t2 a1, b1⟩
theorem Ct.pre {s : State} {H : Heap} {locs : List Loc} {as : List Value} (hkx : KX G s) (hM : HM G M H) (hS : va_S (gA G) s.heap H locs) : ∀ U : State, U.heap = H → s.WarmedH U.vm → va_Pc as (fun U => KX G U ∧ HM G M U.heap) as.toArray U := fun U hU hW => ⟨rfl, hkx.go hW (by rw [hU]; exact hS.1) (fun a h1 h2 => by rw [hU]; exact hS.2.1 a h1 h2), by rw [hU]; exact hM⟩
theorem wp_callV {idx np b ci d' mc' ms' : Nat} {y : MethodName} {mj : MI} {As st rest : List Value} {fs : List Value} {T : u_T} {N : Nat} {res1 : Option Value} {M1 : Mem} (hd : decode mi.2.1 pc = .ok (.invokevirtual idx, 3)) (hk : CallV mi.1 idx y mj np) (hct : Ct G d' y mj (.ref b :: As) M mc' ms' res1 M1) (hL : b ∈ M.1) (hE : M.2.1 b = .inr (ci, fs)) (hcl : vwCl[ci]? = some (y.cls, T, N)) (hn : As.length = np) (hdd : d' + 1 ≤ d) (hmc : k + mc' ≤ mc) (hms : n + ms' ≤ ms) (hst : st = As.reverse ++ .ref b :: rest) (hsum : (rest.map fun v => v.category).sum ≤ 8)
    (kk : WP G mi d mc ms res M' (pc + 3) lc (res1.toList ++ rest) M1 (k + mc') (n + ms')) : WP G mi d mc ms res M' pc lc st M k n := by
  intro p e s m args below meth c H locs ls hc hM hS hl
  obtain ⟨k1, k2, k3, k4, k5, k6, k7⟩ := hk
  obtain ⟨q, hq⟩ := mpl_get hL
  rw [hE] at hq
  have ht := hc.2.2.2.2.2.2.2.1
  refine va_Run.go (va_runV (C := y.cls) (As := As) (rest := rest) (n := np) (bytes := mj.2.1) (maxL := mj.2.2.1) (ret := mj.2.2.2.1) ⟨hc.1, hc.2.1, hc.2.2.1, hc.2.2.2.2.2.2.1, ht⟩ hct ⟨callB_of np ht (wsO_good k5) rfl rfl rfl (ht _ k4) (ht _ k1) k6 ⟨hdd, by show 8 + (mj.2.2.1 + 11) + 40 * d' ≤ 40 * d; omega⟩, ht _ k2, ht _ k3⟩ ⟨Ct.blind, va_recv hc.2.2.2.2.2.2.2.2.1 hM.2.1 hcl hq, Ct.pre hc.2.2.2.2.2.2.2.2 hM hS⟩ rfl hn hl.1 hst (lv_room hsum) hd ⟨hmc, hms⟩) hS (fun H1 locs1 hM1 hS1 => kk p e s m args below meth c H1 locs1 ls hc hM1 hS1 hl)
theorem wp_callS {idx np d' mc' ms' : Nat} {y : MethodName} {mj : MI} {As st rest : List Value} {res1 : Option Value} {M1 : Mem} (hd : decode mi.2.1 pc = .ok (.invokestatic idx, 3)) (hk : CallS mi.1 idx y mj np) (hct : Ct G d' y mj As M mc' ms' res1 M1) (hn : As.length = np) (hdd : d' + 1 ≤ d) (hmc : k + mc' ≤ mc) (hms : n + ms' ≤ ms) (hst : st = As.reverse ++ rest) (hsum : (rest.map fun v => v.category).sum ≤ 8)
    (kk : WP G mi d mc ms res M' (pc + 3) lc (res1.toList ++ rest) M1 (k + mc') (n + ms')) : WP G mi d mc ms res M' pc lc st M k n := by
  intro p e s m args below meth c H locs ls hc hM hS hl
  obtain ⟨k1, k2, k4, k5, k6, k7⟩ := hk
  have ht := hc.2.2.2.2.2.2.2.1
  refine va_Run.go (va_runS (As := As) (rest := rest) (n := np) (bytes := mj.2.1) (maxL := mj.2.2.1) (ret := mj.2.2.2.1) ⟨hc.1, hc.2.1, hc.2.2.1, hc.2.2.2.2.2.2.1, ht⟩ hct ⟨callB_of np ht (wsO_good k5) rfl rfl rfl (ht _ k4) (ht _ k1) k6 ⟨hdd, by show 8 + (mj.2.2.1 + 11) + 40 * d' ≤ 40 * d; omega⟩, ht _ k2⟩ ⟨Ct.blind, Ct.pre hc.2.2.2.2.2.2.2.2 hM hS⟩ rfl hn hl.1 hst (lv_room hsum) hd ⟨hmc, hms⟩) hS (fun H1 locs1 hM1 hS1 => kk p e s m args below meth c H1 locs1 ls hc hM1 hS1 hl)
theorem wp_callI {idx np b d' mc' ms' : Nat} {y : MethodName} {mj : MI} {As st rest : List Value} {res1 : Option Value} {M1 : Mem} (hd : decode mi.2.1 pc = .ok (.invokespecial idx, 3)) (hk : CallI mi.1 idx y mj np) (hct : Ct G d' y mj (.ref b :: As) M mc' ms' res1 M1) (hn : As.length = np) (hdd : d' + 1 ≤ d) (hmc : k + mc' ≤ mc) (hms : n + ms' ≤ ms) (hst : st = As.reverse ++ .ref b :: rest) (hsum : (rest.map fun v => v.category).sum ≤ 8)
    (kk : WP G mi d mc ms res M' (pc + 3) lc (res1.toList ++ rest) M1 (k + mc') (n + ms')) : WP G mi d mc ms res M' pc lc st M k n := by
  intro p e s m args below meth c H locs ls hc hM hS hl
  obtain ⟨k1, k2, k3, k4, k5, k6, k7, k8⟩ := hk
  have ht := hc.2.2.2.2.2.2.2.1
  have k5' : Cond.code y mj.2.1 mj.2.2.1 mj.2.2.2.1 ∈ lw_g := by rw [k8]; exact k5
  refine va_Run.go (va_runI (ws := wsO y mj) (As := As) (rest := rest) (n := np) (bytes := mj.2.1) (maxL := mj.2.2.1) ⟨hc.1, hc.2.1, hc.2.2.1, hc.2.2.2.2.2.2.1, ht⟩ hct ⟨callB_of np ht (wsO_good k5') (ret := none) (ws' := lw_g) (by show _ :: _ = _; rw [k8]) rfl rfl (ht _ k4) (ht _ k1) k6 ⟨hdd, by show 8 + (mj.2.2.1 + 11) + 40 * d' ≤ 40 * d; omega⟩, k3, ht _ k2⟩ ⟨Ct.blind, Ct.pre hc.2.2.2.2.2.2.2.2 hM hS⟩ rfl hn hl.1 hst (lv_room hsum) hd ⟨hmc, hms⟩) hS (fun H1 locs1 hM1 hS1 => kk p e s m args below meth c H1 locs1 ls hc hM1 hS1 hl)
end WPC
end
