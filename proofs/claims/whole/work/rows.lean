section
-- ===== PART A: goes FIRST, ahead of the names: the tables' words, and 'selects' of the private methods out of them =====
/-- a private method of a class that the tables say can be made, by its rows of tables_1 -/
def lw_okq (q : MethodName × Nat) : Prop := (q.1.cls ≠ "java/lang/invoke/MethodHandle" ∧ q.1.cls ≠ "java/lang/invoke/VarHandle") ∧ Cond.instantiable q.1.cls q.2 ∈ tables_1 ∧ Cond.privateMethod q.1 ∈ tables_1 ∧ Cond.instanceMethod q.1 ∈ tables_1
theorem lw_p0 : lw_okq (⟨"PromiseLoop", "checkpoint", "()Z"⟩, 18) := ⟨⟨by decide +kernel, by decide +kernel⟩, List.mem_of_getElem? (i := 15) (by decide +kernel), List.mem_of_getElem? (i := 231) (by decide +kernel), List.mem_of_getElem? (i := 232) (by decide +kernel)⟩
theorem lw_p1 : lw_okq (⟨"PromiseLoop", "microtaskBeginsRun", "()Z"⟩, 18) := ⟨⟨by decide +kernel, by decide +kernel⟩, List.mem_of_getElem? (i := 15) (by decide +kernel), List.mem_of_getElem? (i := 239) (by decide +kernel), List.mem_of_getElem? (i := 240) (by decide +kernel)⟩
theorem lw_p2 : lw_okq (⟨"PromiseLoop", "run", "(III)V"⟩, 18) := ⟨⟨by decide +kernel, by decide +kernel⟩, List.mem_of_getElem? (i := 15) (by decide +kernel), List.mem_of_getElem? (i := 269) (by decide +kernel), List.mem_of_getElem? (i := 270) (by decide +kernel)⟩
theorem lw_p3 : lw_okq (⟨"PromiseLoop", "countRun", "(I)V"⟩, 18) := ⟨⟨by decide +kernel, by decide +kernel⟩, List.mem_of_getElem? (i := 15) (by decide +kernel), List.mem_of_getElem? (i := 273) (by decide +kernel), List.mem_of_getElem? (i := 274) (by decide +kernel)⟩
theorem lw_p4 : lw_okq (⟨"PromiseLoop", "endWith", "(IZ)V"⟩, 18) := ⟨⟨by decide +kernel, by decide +kernel⟩, List.mem_of_getElem? (i := 15) (by decide +kernel), List.mem_of_getElem? (i := 277) (by decide +kernel), List.mem_of_getElem? (i := 278) (by decide +kernel)⟩
theorem lw_p5 : lw_okq (⟨"PromiseLoop", "doStep", "(IIIII)V"⟩, 18) := ⟨⟨by decide +kernel, by decide +kernel⟩, List.mem_of_getElem? (i := 15) (by decide +kernel), List.mem_of_getElem? (i := 297) (by decide +kernel), List.mem_of_getElem? (i := 298) (by decide +kernel)⟩
theorem lw_p6 : lw_okq (⟨"PromiseLoop", "postStep", "(III)V"⟩, 18) := ⟨⟨by decide +kernel, by decide +kernel⟩, List.mem_of_getElem? (i := 15) (by decide +kernel), List.mem_of_getElem? (i := 305) (by decide +kernel), List.mem_of_getElem? (i := 306) (by decide +kernel)⟩
theorem lw_p7 : lw_okq (⟨"PromiseLoop", "waitingTasks", "()I"⟩, 18) := ⟨⟨by decide +kernel, by decide +kernel⟩, List.mem_of_getElem? (i := 15) (by decide +kernel), List.mem_of_getElem? (i := 309) (by decide +kernel), List.mem_of_getElem? (i := 310) (by decide +kernel)⟩
theorem lw_p8 : lw_okq (⟨"PromiseLoop", "fail", "(I)V"⟩, 18) := ⟨⟨by decide +kernel, by decide +kernel⟩, List.mem_of_getElem? (i := 15) (by decide +kernel), List.mem_of_getElem? (i := 313) (by decide +kernel), List.mem_of_getElem? (i := 314) (by decide +kernel)⟩
theorem lw_p9 : lw_okq (⟨"PromiseLoop", "microStep", "(II)V"⟩, 18) := ⟨⟨by decide +kernel, by decide +kernel⟩, List.mem_of_getElem? (i := 15) (by decide +kernel), List.mem_of_getElem? (i := 321) (by decide +kernel), List.mem_of_getElem? (i := 322) (by decide +kernel)⟩
theorem lw_p10 : lw_okq (⟨"PromiseLoop", "timerStep", "(IIIZ)V"⟩, 18) := ⟨⟨by decide +kernel, by decide +kernel⟩, List.mem_of_getElem? (i := 15) (by decide +kernel), List.mem_of_getElem? (i := 325) (by decide +kernel), List.mem_of_getElem? (i := 326) (by decide +kernel)⟩
theorem lw_p11 : lw_okq (⟨"PromiseLoop$Timers", "freePlace", "()I"⟩, 10) := ⟨⟨by decide +kernel, by decide +kernel⟩, List.mem_of_getElem? (i := 135) (by decide +kernel), List.mem_of_getElem? (i := 337) (by decide +kernel), List.mem_of_getElem? (i := 338) (by decide +kernel)⟩
theorem lw_p12 : lw_okq (⟨"PromiseLoop$Timers", "start", "(III)V"⟩, 10) := ⟨⟨by decide +kernel, by decide +kernel⟩, List.mem_of_getElem? (i := 135) (by decide +kernel), List.mem_of_getElem? (i := 341) (by decide +kernel), List.mem_of_getElem? (i := 342) (by decide +kernel)⟩
theorem lw_p13 : lw_okq (⟨"PromiseLoop", "callStep", "(III)V"⟩, 18) := ⟨⟨by decide +kernel, by decide +kernel⟩, List.mem_of_getElem? (i := 15) (by decide +kernel), List.mem_of_getElem? (i := 353) (by decide +kernel), List.mem_of_getElem? (i := 354) (by decide +kernel)⟩
theorem lw_p14 : lw_okq (⟨"PromiseLoop", "mayCall", "(I)Z"⟩, 18) := ⟨⟨by decide +kernel, by decide +kernel⟩, List.mem_of_getElem? (i := 15) (by decide +kernel), List.mem_of_getElem? (i := 357) (by decide +kernel), List.mem_of_getElem? (i := 358) (by decide +kernel)⟩
theorem lw_p15 : lw_okq (⟨"PromiseLoop", "tryStep", "(IIII)V"⟩, 18) := ⟨⟨by decide +kernel, by decide +kernel⟩, List.mem_of_getElem? (i := 15) (by decide +kernel), List.mem_of_getElem? (i := 361) (by decide +kernel), List.mem_of_getElem? (i := 362) (by decide +kernel)⟩
def lw_privs_1 : List (MethodName × Nat) := [(⟨"PromiseLoop", "checkpoint", "()Z"⟩, 18), (⟨"PromiseLoop", "microtaskBeginsRun", "()Z"⟩, 18), (⟨"PromiseLoop", "run", "(III)V"⟩, 18), (⟨"PromiseLoop", "countRun", "(I)V"⟩, 18), (⟨"PromiseLoop", "endWith", "(IZ)V"⟩, 18), (⟨"PromiseLoop", "doStep", "(IIIII)V"⟩, 18), (⟨"PromiseLoop", "postStep", "(III)V"⟩, 18), (⟨"PromiseLoop", "waitingTasks", "()I"⟩, 18), (⟨"PromiseLoop", "fail", "(I)V"⟩, 18), (⟨"PromiseLoop", "microStep", "(II)V"⟩, 18), (⟨"PromiseLoop", "timerStep", "(IIIZ)V"⟩, 18), (⟨"PromiseLoop$Timers", "freePlace", "()I"⟩, 10), (⟨"PromiseLoop$Timers", "start", "(III)V"⟩, 10), (⟨"PromiseLoop", "callStep", "(III)V"⟩, 18), (⟨"PromiseLoop", "mayCall", "(I)Z"⟩, 18), (⟨"PromiseLoop", "tryStep", "(IIII)V"⟩, 18)]
theorem lw_r1 : ∀ q ∈ lw_privs_1, lw_okq q := List.forall_mem_cons.mpr ⟨lw_p0, List.forall_mem_cons.mpr ⟨lw_p1, List.forall_mem_cons.mpr ⟨lw_p2, List.forall_mem_cons.mpr ⟨lw_p3, List.forall_mem_cons.mpr ⟨lw_p4, List.forall_mem_cons.mpr ⟨lw_p5, List.forall_mem_cons.mpr ⟨lw_p6, List.forall_mem_cons.mpr ⟨lw_p7, List.forall_mem_cons.mpr ⟨lw_p8, List.forall_mem_cons.mpr ⟨lw_p9, List.forall_mem_cons.mpr ⟨lw_p10, List.forall_mem_cons.mpr ⟨lw_p11, List.forall_mem_cons.mpr ⟨lw_p12, List.forall_mem_cons.mpr ⟨lw_p13, List.forall_mem_cons.mpr ⟨lw_p14, List.forall_mem_cons.mpr ⟨lw_p15, fun _ h => absurd h List.not_mem_nil⟩⟩⟩⟩⟩⟩⟩⟩⟩⟩⟩⟩⟩⟩⟩⟩
theorem lw_p16 : lw_okq (⟨"PromiseLoop", "answerStep", "(III)V"⟩, 18) := ⟨⟨by decide +kernel, by decide +kernel⟩, List.mem_of_getElem? (i := 15) (by decide +kernel), List.mem_of_getElem? (i := 365) (by decide +kernel), List.mem_of_getElem? (i := 366) (by decide +kernel)⟩
theorem lw_p17 : lw_okq (⟨"PromiseLoop", "makeStep", "(I)V"⟩, 18) := ⟨⟨by decide +kernel, by decide +kernel⟩, List.mem_of_getElem? (i := 15) (by decide +kernel), List.mem_of_getElem? (i := 369) (by decide +kernel), List.mem_of_getElem? (i := 370) (by decide +kernel)⟩
theorem lw_p18 : lw_okq (⟨"PromiseLoop", "thenStep", "(III)V"⟩, 18) := ⟨⟨by decide +kernel, by decide +kernel⟩, List.mem_of_getElem? (i := 15) (by decide +kernel), List.mem_of_getElem? (i := 398) (by decide +kernel), List.mem_of_getElem? (i := 399) (by decide +kernel)⟩
theorem lw_p19 : lw_okq (⟨"PromiseLoop", "frameStep", "(I)V"⟩, 18) := ⟨⟨by decide +kernel, by decide +kernel⟩, List.mem_of_getElem? (i := 15) (by decide +kernel), List.mem_of_getElem? (i := 407) (by decide +kernel), List.mem_of_getElem? (i := 408) (by decide +kernel)⟩
theorem lw_p20 : lw_okq (⟨"PromiseLoop", "reportFailure", "()V"⟩, 18) := ⟨⟨by decide +kernel, by decide +kernel⟩, List.mem_of_getElem? (i := 15) (by decide +kernel), List.mem_of_getElem? (i := 411) (by decide +kernel), List.mem_of_getElem? (i := 412) (by decide +kernel)⟩
theorem lw_p21 : lw_okq (⟨"PromiseLoop", "doReaction", "(I)V"⟩, 18) := ⟨⟨by decide +kernel, by decide +kernel⟩, List.mem_of_getElem? (i := 15) (by decide +kernel), List.mem_of_getElem? (i := 415) (by decide +kernel), List.mem_of_getElem? (i := 416) (by decide +kernel)⟩
theorem lw_p22 : lw_okq (⟨"PromiseLoop", "settleWithResult", "(I)V"⟩, 18) := ⟨⟨by decide +kernel, by decide +kernel⟩, List.mem_of_getElem? (i := 15) (by decide +kernel), List.mem_of_getElem? (i := 436) (by decide +kernel), List.mem_of_getElem? (i := 437) (by decide +kernel)⟩
theorem lw_p23 : lw_okq (⟨"PromiseLoop", "doTask", "()Z"⟩, 18) := ⟨⟨by decide +kernel, by decide +kernel⟩, List.mem_of_getElem? (i := 15) (by decide +kernel), List.mem_of_getElem? (i := 444) (by decide +kernel), List.mem_of_getElem? (i := 445) (by decide +kernel)⟩
theorem lw_p24 : lw_okq (⟨"PromiseLoop", "sourceOfNextTask", "()I"⟩, 18) := ⟨⟨by decide +kernel, by decide +kernel⟩, List.mem_of_getElem? (i := 15) (by decide +kernel), List.mem_of_getElem? (i := 448) (by decide +kernel), List.mem_of_getElem? (i := 449) (by decide +kernel)⟩
theorem lw_p25 : lw_okq (⟨"PromiseLoop", "doTimer", "(I)V"⟩, 18) := ⟨⟨by decide +kernel, by decide +kernel⟩, List.mem_of_getElem? (i := 15) (by decide +kernel), List.mem_of_getElem? (i := 453) (by decide +kernel), List.mem_of_getElem? (i := 454) (by decide +kernel)⟩
theorem lw_p26 : lw_okq (⟨"PromiseLoop", "doFrame", "(Z)Z"⟩, 18) := ⟨⟨by decide +kernel, by decide +kernel⟩, List.mem_of_getElem? (i := 15) (by decide +kernel), List.mem_of_getElem? (i := 477) (by decide +kernel), List.mem_of_getElem? (i := 478) (by decide +kernel)⟩
theorem lw_p27 : lw_okq (⟨"java/lang/Throwable", "fillInStackTrace", "(I)Ljava/lang/Throwable;"⟩, 6) := ⟨⟨by decide +kernel, by decide +kernel⟩, List.mem_of_getElem? (i := 555) (by decide +kernel), List.mem_of_getElem? (i := 553) (by decide +kernel), List.mem_of_getElem? (i := 554) (by decide +kernel)⟩
theorem lw_p28 : lw_okq (⟨"PromiseLoop$Timers", "nextDue", "(I)I"⟩, 10) := ⟨⟨by decide +kernel, by decide +kernel⟩, List.mem_of_getElem? (i := 135) (by decide +kernel), List.mem_of_getElem? (i := 646) (by decide +kernel), List.mem_of_getElem? (i := 647) (by decide +kernel)⟩
theorem lw_p29 : lw_okq (⟨"PromiseLoop$Timers", "isBefore", "(II)Z"⟩, 10) := ⟨⟨by decide +kernel, by decide +kernel⟩, List.mem_of_getElem? (i := 135) (by decide +kernel), List.mem_of_getElem? (i := 650) (by decide +kernel), List.mem_of_getElem? (i := 651) (by decide +kernel)⟩
theorem lw_p30 : lw_okq (⟨"PromiseLoopModel", "outside", "(III)Z"⟩, 67) := ⟨⟨by decide +kernel, by decide +kernel⟩, List.mem_of_getElem? (i := 744) (by decide +kernel), List.mem_of_getElem? (i := 960) (by decide +kernel), List.mem_of_getElem? (i := 961) (by decide +kernel)⟩
theorem lw_p31 : lw_okq (⟨"PromiseLoopModel", "fits", "(III)Z"⟩, 67) := ⟨⟨by decide +kernel, by decide +kernel⟩, List.mem_of_getElem? (i := 744) (by decide +kernel), List.mem_of_getElem? (i := 964) (by decide +kernel), List.mem_of_getElem? (i := 965) (by decide +kernel)⟩
def lw_privs_2 : List (MethodName × Nat) := [(⟨"PromiseLoop", "answerStep", "(III)V"⟩, 18), (⟨"PromiseLoop", "makeStep", "(I)V"⟩, 18), (⟨"PromiseLoop", "thenStep", "(III)V"⟩, 18), (⟨"PromiseLoop", "frameStep", "(I)V"⟩, 18), (⟨"PromiseLoop", "reportFailure", "()V"⟩, 18), (⟨"PromiseLoop", "doReaction", "(I)V"⟩, 18), (⟨"PromiseLoop", "settleWithResult", "(I)V"⟩, 18), (⟨"PromiseLoop", "doTask", "()Z"⟩, 18), (⟨"PromiseLoop", "sourceOfNextTask", "()I"⟩, 18), (⟨"PromiseLoop", "doTimer", "(I)V"⟩, 18), (⟨"PromiseLoop", "doFrame", "(Z)Z"⟩, 18), (⟨"java/lang/Throwable", "fillInStackTrace", "(I)Ljava/lang/Throwable;"⟩, 6), (⟨"PromiseLoop$Timers", "nextDue", "(I)I"⟩, 10), (⟨"PromiseLoop$Timers", "isBefore", "(II)Z"⟩, 10), (⟨"PromiseLoopModel", "outside", "(III)Z"⟩, 67), (⟨"PromiseLoopModel", "fits", "(III)Z"⟩, 67)]
theorem lw_r2 : ∀ q ∈ lw_privs_2, lw_okq q := List.forall_mem_cons.mpr ⟨lw_p16, List.forall_mem_cons.mpr ⟨lw_p17, List.forall_mem_cons.mpr ⟨lw_p18, List.forall_mem_cons.mpr ⟨lw_p19, List.forall_mem_cons.mpr ⟨lw_p20, List.forall_mem_cons.mpr ⟨lw_p21, List.forall_mem_cons.mpr ⟨lw_p22, List.forall_mem_cons.mpr ⟨lw_p23, List.forall_mem_cons.mpr ⟨lw_p24, List.forall_mem_cons.mpr ⟨lw_p25, List.forall_mem_cons.mpr ⟨lw_p26, List.forall_mem_cons.mpr ⟨lw_p27, List.forall_mem_cons.mpr ⟨lw_p28, List.forall_mem_cons.mpr ⟨lw_p29, List.forall_mem_cons.mpr ⟨lw_p30, List.forall_mem_cons.mpr ⟨lw_p31, fun _ h => absurd h List.not_mem_nil⟩⟩⟩⟩⟩⟩⟩⟩⟩⟩⟩⟩⟩⟩⟩⟩
theorem lw_p32 : lw_okq (⟨"PromiseLoopModel", "addTask", "(IIII)V"⟩, 67) := ⟨⟨by decide +kernel, by decide +kernel⟩, List.mem_of_getElem? (i := 744) (by decide +kernel), List.mem_of_getElem? (i := 976) (by decide +kernel), List.mem_of_getElem? (i := 977) (by decide +kernel)⟩
theorem lw_p33 : lw_okq (⟨"PromiseLoopModel", "checkpoint", "()Z"⟩, 67) := ⟨⟨by decide +kernel, by decide +kernel⟩, List.mem_of_getElem? (i := 744) (by decide +kernel), List.mem_of_getElem? (i := 992) (by decide +kernel), List.mem_of_getElem? (i := 993) (by decide +kernel)⟩
theorem lw_p34 : lw_okq (⟨"PromiseLoopModel", "functionOf", "(I)I"⟩, 67) := ⟨⟨by decide +kernel, by decide +kernel⟩, List.mem_of_getElem? (i := 744) (by decide +kernel), List.mem_of_getElem? (i := 996) (by decide +kernel), List.mem_of_getElem? (i := 997) (by decide +kernel)⟩
theorem lw_p35 : lw_okq (⟨"PromiseLoopModel", "runAndTell", "(II)V"⟩, 67) := ⟨⟨by decide +kernel, by decide +kernel⟩, List.mem_of_getElem? (i := 744) (by decide +kernel), List.mem_of_getElem? (i := 1000) (by decide +kernel), List.mem_of_getElem? (i := 1001) (by decide +kernel)⟩
theorem lw_p36 : lw_okq (⟨"PromiseLoopModel", "run", "(II)Z"⟩, 67) := ⟨⟨by decide +kernel, by decide +kernel⟩, List.mem_of_getElem? (i := 744) (by decide +kernel), List.mem_of_getElem? (i := 1004) (by decide +kernel), List.mem_of_getElem? (i := 1005) (by decide +kernel)⟩
theorem lw_p37 : lw_okq (⟨"PromiseLoopModel", "begin", "(IIII)V"⟩, 67) := ⟨⟨by decide +kernel, by decide +kernel⟩, List.mem_of_getElem? (i := 744) (by decide +kernel), List.mem_of_getElem? (i := 1008) (by decide +kernel), List.mem_of_getElem? (i := 1009) (by decide +kernel)⟩
theorem lw_p38 : lw_okq (⟨"PromiseLoopModel", "doStep", "(I)V"⟩, 67) := ⟨⟨by decide +kernel, by decide +kernel⟩, List.mem_of_getElem? (i := 744) (by decide +kernel), List.mem_of_getElem? (i := 1012) (by decide +kernel), List.mem_of_getElem? (i := 1013) (by decide +kernel)⟩
theorem lw_p39 : lw_okq (⟨"PromiseLoopModel", "timerAt", "(I)I"⟩, 67) := ⟨⟨by decide +kernel, by decide +kernel⟩, List.mem_of_getElem? (i := 744) (by decide +kernel), List.mem_of_getElem? (i := 1016) (by decide +kernel), List.mem_of_getElem? (i := 1017) (by decide +kernel)⟩
theorem lw_p40 : lw_okq (⟨"PromiseLoopModel", "dropTimer", "(I)V"⟩, 67) := ⟨⟨by decide +kernel, by decide +kernel⟩, List.mem_of_getElem? (i := 744) (by decide +kernel), List.mem_of_getElem? (i := 1020) (by decide +kernel), List.mem_of_getElem? (i := 1021) (by decide +kernel)⟩
theorem lw_p41 : lw_okq (⟨"PromiseLoopModel", "fail", "(I)V"⟩, 67) := ⟨⟨by decide +kernel, by decide +kernel⟩, List.mem_of_getElem? (i := 744) (by decide +kernel), List.mem_of_getElem? (i := 1024) (by decide +kernel), List.mem_of_getElem? (i := 1025) (by decide +kernel)⟩
theorem lw_p42 : lw_okq (⟨"PromiseLoopModel", "nest", "(III)V"⟩, 67) := ⟨⟨by decide +kernel, by decide +kernel⟩, List.mem_of_getElem? (i := 744) (by decide +kernel), List.mem_of_getElem? (i := 1028) (by decide +kernel), List.mem_of_getElem? (i := 1029) (by decide +kernel)⟩
theorem lw_p43 : lw_okq (⟨"PromiseLoopModel", "answer", "(III)V"⟩, 67) := ⟨⟨by decide +kernel, by decide +kernel⟩, List.mem_of_getElem? (i := 744) (by decide +kernel), List.mem_of_getElem? (i := 1032) (by decide +kernel), List.mem_of_getElem? (i := 1033) (by decide +kernel)⟩
theorem lw_p44 : lw_okq (⟨"PromiseLoopModel", "place", "(IIII)V"⟩, 67) := ⟨⟨by decide +kernel, by decide +kernel⟩, List.mem_of_getElem? (i := 744) (by decide +kernel), List.mem_of_getElem? (i := 1036) (by decide +kernel), List.mem_of_getElem? (i := 1037) (by decide +kernel)⟩
theorem lw_p45 : lw_okq (⟨"PromiseLoopModel", "addMicro", "(III)V"⟩, 67) := ⟨⟨by decide +kernel, by decide +kernel⟩, List.mem_of_getElem? (i := 744) (by decide +kernel), List.mem_of_getElem? (i := 1040) (by decide +kernel), List.mem_of_getElem? (i := 1041) (by decide +kernel)⟩
theorem lw_p46 : lw_okq (⟨"PromiseLoopModel", "addTimer", "(IIIZ)V"⟩, 67) := ⟨⟨by decide +kernel, by decide +kernel⟩, List.mem_of_getElem? (i := 744) (by decide +kernel), List.mem_of_getElem? (i := 1044) (by decide +kernel), List.mem_of_getElem? (i := 1045) (by decide +kernel)⟩
theorem lw_p47 : lw_okq (⟨"PromiseLoopModel", "dueOf", "(I)I"⟩, 67) := ⟨⟨by decide +kernel, by decide +kernel⟩, List.mem_of_getElem? (i := 744) (by decide +kernel), List.mem_of_getElem? (i := 1048) (by decide +kernel), List.mem_of_getElem? (i := 1049) (by decide +kernel)⟩
def lw_privs_3 : List (MethodName × Nat) := [(⟨"PromiseLoopModel", "addTask", "(IIII)V"⟩, 67), (⟨"PromiseLoopModel", "checkpoint", "()Z"⟩, 67), (⟨"PromiseLoopModel", "functionOf", "(I)I"⟩, 67), (⟨"PromiseLoopModel", "runAndTell", "(II)V"⟩, 67), (⟨"PromiseLoopModel", "run", "(II)Z"⟩, 67), (⟨"PromiseLoopModel", "begin", "(IIII)V"⟩, 67), (⟨"PromiseLoopModel", "doStep", "(I)V"⟩, 67), (⟨"PromiseLoopModel", "timerAt", "(I)I"⟩, 67), (⟨"PromiseLoopModel", "dropTimer", "(I)V"⟩, 67), (⟨"PromiseLoopModel", "fail", "(I)V"⟩, 67), (⟨"PromiseLoopModel", "nest", "(III)V"⟩, 67), (⟨"PromiseLoopModel", "answer", "(III)V"⟩, 67), (⟨"PromiseLoopModel", "place", "(IIII)V"⟩, 67), (⟨"PromiseLoopModel", "addMicro", "(III)V"⟩, 67), (⟨"PromiseLoopModel", "addTimer", "(IIIZ)V"⟩, 67), (⟨"PromiseLoopModel", "dueOf", "(I)I"⟩, 67)]
theorem lw_r3 : ∀ q ∈ lw_privs_3, lw_okq q := List.forall_mem_cons.mpr ⟨lw_p32, List.forall_mem_cons.mpr ⟨lw_p33, List.forall_mem_cons.mpr ⟨lw_p34, List.forall_mem_cons.mpr ⟨lw_p35, List.forall_mem_cons.mpr ⟨lw_p36, List.forall_mem_cons.mpr ⟨lw_p37, List.forall_mem_cons.mpr ⟨lw_p38, List.forall_mem_cons.mpr ⟨lw_p39, List.forall_mem_cons.mpr ⟨lw_p40, List.forall_mem_cons.mpr ⟨lw_p41, List.forall_mem_cons.mpr ⟨lw_p42, List.forall_mem_cons.mpr ⟨lw_p43, List.forall_mem_cons.mpr ⟨lw_p44, List.forall_mem_cons.mpr ⟨lw_p45, List.forall_mem_cons.mpr ⟨lw_p46, List.forall_mem_cons.mpr ⟨lw_p47, fun _ h => absurd h List.not_mem_nil⟩⟩⟩⟩⟩⟩⟩⟩⟩⟩⟩⟩⟩⟩⟩⟩
theorem lw_p48 : lw_okq (⟨"PromiseLoopModel", "promiseStep", "(IIII)V"⟩, 67) := ⟨⟨by decide +kernel, by decide +kernel⟩, List.mem_of_getElem? (i := 744) (by decide +kernel), List.mem_of_getElem? (i := 1052) (by decide +kernel), List.mem_of_getElem? (i := 1053) (by decide +kernel)⟩
theorem lw_p49 : lw_okq (⟨"PromiseLoopModel", "makePromise", "()I"⟩, 67) := ⟨⟨by decide +kernel, by decide +kernel⟩, List.mem_of_getElem? (i := 744) (by decide +kernel), List.mem_of_getElem? (i := 1056) (by decide +kernel), List.mem_of_getElem? (i := 1057) (by decide +kernel)⟩
theorem lw_p50 : lw_okq (⟨"PromiseLoopModel", "reject", "(II)V"⟩, 67) := ⟨⟨by decide +kernel, by decide +kernel⟩, List.mem_of_getElem? (i := 744) (by decide +kernel), List.mem_of_getElem? (i := 1060) (by decide +kernel), List.mem_of_getElem? (i := 1061) (by decide +kernel)⟩
theorem lw_p51 : lw_okq (⟨"PromiseLoopModel", "settle", "(III)V"⟩, 67) := ⟨⟨by decide +kernel, by decide +kernel⟩, List.mem_of_getElem? (i := 744) (by decide +kernel), List.mem_of_getElem? (i := 1064) (by decide +kernel), List.mem_of_getElem? (i := 1065) (by decide +kernel)⟩
theorem lw_p52 : lw_okq (⟨"PromiseLoopModel", "resolve", "(IZI)V"⟩, 67) := ⟨⟨by decide +kernel, by decide +kernel⟩, List.mem_of_getElem? (i := 744) (by decide +kernel), List.mem_of_getElem? (i := 1068) (by decide +kernel), List.mem_of_getElem? (i := 1069) (by decide +kernel)⟩
theorem lw_p53 : lw_okq (⟨"PromiseLoopModel", "then", "(II)V"⟩, 67) := ⟨⟨by decide +kernel, by decide +kernel⟩, List.mem_of_getElem? (i := 744) (by decide +kernel), List.mem_of_getElem? (i := 1072) (by decide +kernel), List.mem_of_getElem? (i := 1073) (by decide +kernel)⟩
theorem lw_p54 : lw_okq (⟨"PromiseLoopModel", "react", "(IIII)V"⟩, 67) := ⟨⟨by decide +kernel, by decide +kernel⟩, List.mem_of_getElem? (i := 744) (by decide +kernel), List.mem_of_getElem? (i := 1076) (by decide +kernel), List.mem_of_getElem? (i := 1077) (by decide +kernel)⟩
theorem lw_p55 : lw_okq (⟨"PromiseLoopModel", "tell", "(II)V"⟩, 67) := ⟨⟨by decide +kernel, by decide +kernel⟩, List.mem_of_getElem? (i := 744) (by decide +kernel), List.mem_of_getElem? (i := 1080) (by decide +kernel), List.mem_of_getElem? (i := 1081) (by decide +kernel)⟩
theorem lw_p56 : lw_okq (⟨"PromiseLoopModel", "takenUp", "()Z"⟩, 67) := ⟨⟨by decide +kernel, by decide +kernel⟩, List.mem_of_getElem? (i := 744) (by decide +kernel), List.mem_of_getElem? (i := 1084) (by decide +kernel), List.mem_of_getElem? (i := 1085) (by decide +kernel)⟩
theorem lw_p57 : lw_okq (⟨"PromiseLoopModel", "doReaction", "(I)V"⟩, 67) := ⟨⟨by decide +kernel, by decide +kernel⟩, List.mem_of_getElem? (i := 744) (by decide +kernel), List.mem_of_getElem? (i := 1088) (by decide +kernel), List.mem_of_getElem? (i := 1089) (by decide +kernel)⟩
theorem lw_p58 : lw_okq (⟨"PromiseLoopModel", "doTask", "()Z"⟩, 67) := ⟨⟨by decide +kernel, by decide +kernel⟩, List.mem_of_getElem? (i := 744) (by decide +kernel), List.mem_of_getElem? (i := 1092) (by decide +kernel), List.mem_of_getElem? (i := 1093) (by decide +kernel)⟩
theorem lw_p59 : lw_okq (⟨"PromiseLoopModel", "nextTask", "()I"⟩, 67) := ⟨⟨by decide +kernel, by decide +kernel⟩, List.mem_of_getElem? (i := 744) (by decide +kernel), List.mem_of_getElem? (i := 1096) (by decide +kernel), List.mem_of_getElem? (i := 1097) (by decide +kernel)⟩
theorem lw_p60 : lw_okq (⟨"PromiseLoopModel", "dropTask", "(I)V"⟩, 67) := ⟨⟨by decide +kernel, by decide +kernel⟩, List.mem_of_getElem? (i := 744) (by decide +kernel), List.mem_of_getElem? (i := 1100) (by decide +kernel), List.mem_of_getElem? (i := 1101) (by decide +kernel)⟩
theorem lw_p61 : lw_okq (⟨"PromiseLoopModel", "doTimer", "(I)V"⟩, 67) := ⟨⟨by decide +kernel, by decide +kernel⟩, List.mem_of_getElem? (i := 744) (by decide +kernel), List.mem_of_getElem? (i := 1104) (by decide +kernel), List.mem_of_getElem? (i := 1105) (by decide +kernel)⟩
theorem lw_p62 : lw_okq (⟨"PromiseLoopModel", "doFrames", "()V"⟩, 67) := ⟨⟨by decide +kernel, by decide +kernel⟩, List.mem_of_getElem? (i := 744) (by decide +kernel), List.mem_of_getElem? (i := 1108) (by decide +kernel), List.mem_of_getElem? (i := 1109) (by decide +kernel)⟩
theorem lw_p63 : lw_okq (⟨"PromiseLoopModel", "giveBack", "(I)V"⟩, 67) := ⟨⟨by decide +kernel, by decide +kernel⟩, List.mem_of_getElem? (i := 744) (by decide +kernel), List.mem_of_getElem? (i := 1112) (by decide +kernel), List.mem_of_getElem? (i := 1113) (by decide +kernel)⟩
def lw_privs_4 : List (MethodName × Nat) := [(⟨"PromiseLoopModel", "promiseStep", "(IIII)V"⟩, 67), (⟨"PromiseLoopModel", "makePromise", "()I"⟩, 67), (⟨"PromiseLoopModel", "reject", "(II)V"⟩, 67), (⟨"PromiseLoopModel", "settle", "(III)V"⟩, 67), (⟨"PromiseLoopModel", "resolve", "(IZI)V"⟩, 67), (⟨"PromiseLoopModel", "then", "(II)V"⟩, 67), (⟨"PromiseLoopModel", "react", "(IIII)V"⟩, 67), (⟨"PromiseLoopModel", "tell", "(II)V"⟩, 67), (⟨"PromiseLoopModel", "takenUp", "()Z"⟩, 67), (⟨"PromiseLoopModel", "doReaction", "(I)V"⟩, 67), (⟨"PromiseLoopModel", "doTask", "()Z"⟩, 67), (⟨"PromiseLoopModel", "nextTask", "()I"⟩, 67), (⟨"PromiseLoopModel", "dropTask", "(I)V"⟩, 67), (⟨"PromiseLoopModel", "doTimer", "(I)V"⟩, 67), (⟨"PromiseLoopModel", "doFrames", "()V"⟩, 67), (⟨"PromiseLoopModel", "giveBack", "(I)V"⟩, 67)]
theorem lw_r4 : ∀ q ∈ lw_privs_4, lw_okq q := List.forall_mem_cons.mpr ⟨lw_p48, List.forall_mem_cons.mpr ⟨lw_p49, List.forall_mem_cons.mpr ⟨lw_p50, List.forall_mem_cons.mpr ⟨lw_p51, List.forall_mem_cons.mpr ⟨lw_p52, List.forall_mem_cons.mpr ⟨lw_p53, List.forall_mem_cons.mpr ⟨lw_p54, List.forall_mem_cons.mpr ⟨lw_p55, List.forall_mem_cons.mpr ⟨lw_p56, List.forall_mem_cons.mpr ⟨lw_p57, List.forall_mem_cons.mpr ⟨lw_p58, List.forall_mem_cons.mpr ⟨lw_p59, List.forall_mem_cons.mpr ⟨lw_p60, List.forall_mem_cons.mpr ⟨lw_p61, List.forall_mem_cons.mpr ⟨lw_p62, List.forall_mem_cons.mpr ⟨lw_p63, fun _ h => absurd h List.not_mem_nil⟩⟩⟩⟩⟩⟩⟩⟩⟩⟩⟩⟩⟩⟩⟩⟩
def lw_privs : List (MethodName × Nat) := lw_privs_1 ++ (lw_privs_2 ++ (lw_privs_3 ++ (lw_privs_4)))
def lw_tbl : List Cond := k2_sels lw_privs ++ tables_1
theorem lw_privs_ok : ∀ q ∈ lw_privs, lw_okq q := by
  show ∀ q ∈ lw_privs_1 ++ (lw_privs_2 ++ (lw_privs_3 ++ (lw_privs_4))), lw_okq q
  exact List.forall_mem_append.mpr ⟨lw_r1, List.forall_mem_append.mpr ⟨lw_r2, List.forall_mem_append.mpr ⟨lw_r3, lw_r4⟩⟩⟩
end
section
def RX0 : String := "PromiseLoop$Functions"
def TX0 : u_T := fun k => match k with
  | 0 => ("PromiseLoop$Functions", "lengths", "[I", true)
  | 1 => ("PromiseLoop$Functions", "codes", "[I", true)
  | 2 => ("PromiseLoop$Functions", "firsts", "[I", true)
  | _ => ("PromiseLoop$Functions", "seconds", "[I", true)
def tyX0 : Nat → FieldType := fun k => match k with
  | 0 => .array .int
  | 1 => .array .int
  | 2 => .array .int
  | _ => .array .int
abbrev wsX00 : List Cond := u_ws RX0 TX0 4
theorem nmX0 : ∀ a, a < 4 → ∀ b, b < 4 → a ≠ b → (TX0 a).2.1 ≠ (TX0 b).2.1 := by decide +kernel
theorem tyX0_ok : ∀ k, k < 4 → parseFieldDescriptor (TX0 k).2.2.1 = some (tyX0 k) := by decide +kernel
abbrev cX0_init : ByteArray := prog_2_method_1_code
def yX0_init : MethodName := ⟨RX0, "<init>", "()V"⟩
abbrev cX0_length : ByteArray := prog_2_method_2_code
def yX0_length : MethodName := ⟨RX0, "length", "(I)I"⟩
abbrev cX0_code : ByteArray := prog_2_method_3_code
def yX0_code : MethodName := ⟨RX0, "code", "(II)I"⟩
abbrev cX0_a : ByteArray := prog_2_method_4_code
def yX0_a : MethodName := ⟨RX0, "a", "(II)I"⟩
abbrev cX0_b : ByteArray := prog_2_method_5_code
def yX0_b : MethodName := ⟨RX0, "b", "(II)I"⟩
abbrev cX0_empty : ByteArray := prog_2_method_6_code
def yX0_empty : MethodName := ⟨RX0, "empty", "(I)V"⟩
abbrev cX0_add : ByteArray := prog_2_method_7_code
def yX0_add : MethodName := ⟨RX0, "add", "(IIII)V"⟩
def RX1 : String := "PromiseLoop$Journal"
def TX1 : u_T := fun k => match k with
  | 0 => ("PromiseLoop$Journal", "numbers", "[I", true)
  | _ => ("PromiseLoop$Journal", "size", "I", false)
def tyX1 : Nat → FieldType := fun k => match k with
  | 0 => .array .int
  | _ => .int
abbrev wsX10 : List Cond := u_ws RX1 TX1 2
theorem nmX1 : ∀ a, a < 2 → ∀ b, b < 2 → a ≠ b → (TX1 a).2.1 ≠ (TX1 b).2.1 := by decide +kernel
theorem tyX1_ok : ∀ k, k < 2 → parseFieldDescriptor (TX1 k).2.2.1 = some (tyX1 k) := by decide +kernel
abbrev cX1_init : ByteArray := prog_3_method_1_code
def yX1_init : MethodName := ⟨RX1, "<init>", "()V"⟩
abbrev cX1_size : ByteArray := prog_3_method_2_code
def yX1_size : MethodName := ⟨RX1, "size", "()I"⟩
abbrev cX1_has : ByteArray := prog_3_method_3_code
def yX1_has : MethodName := ⟨RX1, "has", "(I)Z"⟩
abbrev cX1_at : ByteArray := prog_3_method_4_code
def yX1_at : MethodName := ⟨RX1, "at", "(I)I"⟩
abbrev cX1_keep : ByteArray := prog_3_method_5_code
def yX1_keep : MethodName := ⟨RX1, "keep", "(I)V"⟩
def RX2 : String := "PromiseLoop$Line"
def TX2 : u_T := fun k => match k with
  | 0 => ("PromiseLoop$Line", "room", "I", true)
  | 1 => ("PromiseLoop$Line", "kinds", "[I", true)
  | 2 => ("PromiseLoop$Line", "subjects", "[I", true)
  | 3 => ("PromiseLoop$Line", "numbers", "[I", true)
  | 4 => ("PromiseLoop$Line", "first", "I", false)
  | _ => ("PromiseLoop$Line", "size", "I", false)
def tyX2 : Nat → FieldType := fun k => match k with
  | 0 => .int
  | 1 => .array .int
  | 2 => .array .int
  | 3 => .array .int
  | 4 => .int
  | _ => .int
abbrev wsX20 : List Cond := u_ws RX2 TX2 6
theorem nmX2 : ∀ a, a < 6 → ∀ b, b < 6 → a ≠ b → (TX2 a).2.1 ≠ (TX2 b).2.1 := by decide +kernel
theorem tyX2_ok : ∀ k, k < 6 → parseFieldDescriptor (TX2 k).2.2.1 = some (tyX2 k) := by decide +kernel
abbrev cX2_init : ByteArray := prog_4_method_1_code
def yX2_init : MethodName := ⟨RX2, "<init>", "(I)V"⟩
abbrev cX2_size : ByteArray := prog_4_method_2_code
def yX2_size : MethodName := ⟨RX2, "size", "()I"⟩
abbrev cX2_kind : ByteArray := prog_4_method_3_code
def yX2_kind : MethodName := ⟨RX2, "kind", "()I"⟩
abbrev cX2_subject : ByteArray := prog_4_method_4_code
def yX2_subject : MethodName := ⟨RX2, "subject", "()I"⟩
abbrev cX2_number : ByteArray := prog_4_method_5_code
def yX2_number : MethodName := ⟨RX2, "number", "()I"⟩
abbrev cX2_put : ByteArray := prog_4_method_6_code
def yX2_put : MethodName := ⟨RX2, "put", "(III)V"⟩
abbrev cX2_drop : ByteArray := prog_4_method_7_code
def yX2_drop : MethodName := ⟨RX2, "drop", "()V"⟩
def RX3 : String := "PromiseLoop$Promises"
def TX3 : u_T := fun k => match k with
  | 0 => ("PromiseLoop$Promises", "microtasks", "LPromiseLoop$Line;", true)
  | 1 => ("PromiseLoop$Promises", "reports", "LPromiseLoop$Journal;", true)
  | 2 => ("PromiseLoop$Promises", "states", "[I", true)
  | 3 => ("PromiseLoop$Promises", "numbers", "[I", true)
  | 4 => ("PromiseLoop$Promises", "resolved", "[Z", true)
  | 5 => ("PromiseLoop$Promises", "handled", "[Z", true)
  | 6 => ("PromiseLoop$Promises", "reported", "[Z", true)
  | 7 => ("PromiseLoop$Promises", "size", "I", false)
  | 8 => ("PromiseLoop$Promises", "unhandled", "[I", true)
  | 9 => ("PromiseLoop$Promises", "unhandledSize", "I", false)
  | 10 => ("PromiseLoop$Promises", "sources", "[I", true)
  | 11 => ("PromiseLoop$Promises", "targets", "[I", true)
  | 12 => ("PromiseLoop$Promises", "forValues", "[I", true)
  | 13 => ("PromiseLoop$Promises", "forReasons", "[I", true)
  | _ => ("PromiseLoop$Promises", "reactions", "I", false)
def tyX3 : Nat → FieldType := fun k => match k with
  | 0 => .object "PromiseLoop$Line"
  | 1 => .object "PromiseLoop$Journal"
  | 2 => .array .int
  | 3 => .array .int
  | 4 => .array .boolean
  | 5 => .array .boolean
  | 6 => .array .boolean
  | 7 => .int
  | 8 => .array .int
  | 9 => .int
  | 10 => .array .int
  | 11 => .array .int
  | 12 => .array .int
  | 13 => .array .int
  | _ => .int
abbrev wsX30 : List Cond := u_ws RX3 TX3 15
theorem nmX3 : ∀ a, a < 15 → ∀ b, b < 15 → a ≠ b → (TX3 a).2.1 ≠ (TX3 b).2.1 := by decide +kernel
theorem tyX3_ok : ∀ k, k < 15 → parseFieldDescriptor (TX3 k).2.2.1 = some (tyX3 k) := by decide +kernel
abbrev cX3_init : ByteArray := prog_5_method_1_code
def yX3_init : MethodName := ⟨RX3, "<init>", "(LPromiseLoop$Line;LPromiseLoop$Journal;)V"⟩
abbrev cX3_size : ByteArray := prog_5_method_2_code
def yX3_size : MethodName := ⟨RX3, "size", "()I"⟩
abbrev cX3_has : ByteArray := prog_5_method_3_code
def yX3_has : MethodName := ⟨RX3, "has", "(I)Z"⟩
abbrev cX3_isFull : ByteArray := prog_5_method_4_code
def yX3_isFull : MethodName := ⟨RX3, "isFull", "()Z"⟩
abbrev cX3_stateOf : ByteArray := prog_5_method_5_code
def yX3_stateOf : MethodName := ⟨RX3, "stateOf", "(I)I"⟩
abbrev cX3_numberOf : ByteArray := prog_5_method_6_code
def yX3_numberOf : MethodName := ⟨RX3, "numberOf", "(I)I"⟩
abbrev cX3_stateWithFlags : ByteArray := prog_5_method_7_code
def yX3_stateWithFlags : MethodName := ⟨RX3, "stateWithFlags", "(I)I"⟩
abbrev cX3_sourceOf : ByteArray := prog_5_method_8_code
def yX3_sourceOf : MethodName := ⟨RX3, "sourceOf", "(I)I"⟩
abbrev cX3_targetOf : ByteArray := prog_5_method_9_code
def yX3_targetOf : MethodName := ⟨RX3, "targetOf", "(I)I"⟩
abbrev cX3_functionOf : ByteArray := prog_5_method_10_code
def yX3_functionOf : MethodName := ⟨RX3, "functionOf", "(I)I"⟩
abbrev cX3_make : ByteArray := prog_5_method_11_code
def yX3_make : MethodName := ⟨RX3, "make", "()I"⟩
abbrev cX3_resolveOrReject : ByteArray := prog_5_method_12_code
def yX3_resolveOrReject : MethodName := ⟨RX3, "resolveOrReject", "(III)V"⟩
abbrev cX3_follow : ByteArray := prog_5_method_13_code
def yX3_follow : MethodName := ⟨RX3, "follow", "(II)V"⟩
abbrev cX3_settle : ByteArray := prog_5_method_14_code
def yX3_settle : MethodName := ⟨RX3, "settle", "(III)V"⟩
abbrev cX3_react : ByteArray := prog_5_method_15_code
def yX3_react : MethodName := ⟨RX3, "react", "(IIII)V"⟩
abbrev cX3_reportUnhandled : ByteArray := prog_5_method_16_code
def yX3_reportUnhandled : MethodName := ⟨RX3, "reportUnhandled", "()V"⟩
def RX4 : String := "PromiseLoop$Timers"
def TX4 : u_T := fun k => match k with
  | 0 => ("PromiseLoop$Timers", "numbers", "[I", true)
  | 1 => ("PromiseLoop$Timers", "functions", "[I", true)
  | 2 => ("PromiseLoop$Timers", "arguments", "[I", true)
  | 3 => ("PromiseLoop$Timers", "delays", "[I", true)
  | 4 => ("PromiseLoop$Timers", "levels", "[I", true)
  | 5 => ("PromiseLoop$Timers", "dues", "[I", true)
  | 6 => ("PromiseLoop$Timers", "repeats", "[Z", true)
  | 7 => ("PromiseLoop$Timers", "waits", "[Z", true)
  | 8 => ("PromiseLoop$Timers", "made", "I", false)
  | _ => ("PromiseLoop$Timers", "size", "I", false)
def tyX4 : Nat → FieldType := fun k => match k with
  | 0 => .array .int
  | 1 => .array .int
  | 2 => .array .int
  | 3 => .array .int
  | 4 => .array .int
  | 5 => .array .int
  | 6 => .array .boolean
  | 7 => .array .boolean
  | 8 => .int
  | _ => .int
abbrev wsX40 : List Cond := u_ws RX4 TX4 10
theorem nmX4 : ∀ a, a < 10 → ∀ b, b < 10 → a ≠ b → (TX4 a).2.1 ≠ (TX4 b).2.1 := by decide +kernel
theorem tyX4_ok : ∀ k, k < 10 → parseFieldDescriptor (TX4 k).2.2.1 = some (tyX4 k) := by decide +kernel
abbrev cX4_init : ByteArray := prog_6_method_1_code
def yX4_init : MethodName := ⟨RX4, "<init>", "()V"⟩
abbrev cX4_size : ByteArray := prog_6_method_2_code
def yX4_size : MethodName := ⟨RX4, "size", "()I"⟩
abbrev cX4_isFull : ByteArray := prog_6_method_3_code
def yX4_isFull : MethodName := ⟨RX4, "isFull", "()Z"⟩
abbrev cX4_find : ByteArray := prog_6_method_4_code
def yX4_find : MethodName := ⟨RX4, "find", "(I)I"⟩
abbrev cX4_functionAt : ByteArray := prog_6_method_5_code
def yX4_functionAt : MethodName := ⟨RX4, "functionAt", "(I)I"⟩
abbrev cX4_argumentAt : ByteArray := prog_6_method_6_code
def yX4_argumentAt : MethodName := ⟨RX4, "argumentAt", "(I)I"⟩
abbrev cX4_levelAt : ByteArray := prog_6_method_7_code
def yX4_levelAt : MethodName := ⟨RX4, "levelAt", "(I)I"⟩
abbrev cX4_repeatsAt : ByteArray := prog_6_method_8_code
def yX4_repeatsAt : MethodName := ⟨RX4, "repeatsAt", "(I)Z"⟩
abbrev cX4_dueOf : ByteArray := prog_6_method_9_code
def yX4_dueOf : MethodName := ⟨RX4, "dueOf", "(I)I"⟩
abbrev cX4_make : ByteArray := prog_6_method_10_code
def yX4_make : MethodName := ⟨RX4, "make", "(IIIZII)V"⟩
abbrev cX4_remove : ByteArray := prog_6_method_11_code
def yX4_remove : MethodName := ⟨RX4, "remove", "(I)V"⟩
abbrev cX4_restart : ByteArray := prog_6_method_12_code
def yX4_restart : MethodName := ⟨RX4, "restart", "(II)V"⟩
abbrev cX4_putTasks : ByteArray := prog_6_method_13_code
def yX4_putTasks : MethodName := ⟨RX4, "putTasks", "(ILPromiseLoop$Line;)V"⟩
abbrev cX4_freePlace : ByteArray := prog_6_method_14_code
def yX4_freePlace : MethodName := ⟨RX4, "freePlace", "()I"⟩
abbrev cX4_start : ByteArray := prog_6_method_15_code
def yX4_start : MethodName := ⟨RX4, "start", "(III)V"⟩
abbrev cX4_nextDue : ByteArray := prog_6_method_16_code
def yX4_nextDue : MethodName := ⟨RX4, "nextDue", "(I)I"⟩
abbrev cX4_isBefore : ByteArray := prog_6_method_17_code
def yX4_isBefore : MethodName := ⟨RX4, "isBefore", "(II)Z"⟩
def RX5 : String := "PromiseLoop"
def TX5 : u_T := fun k => match k with
  | 0 => ("PromiseLoop", "functions", "LPromiseLoop$Functions;", true)
  | 1 => ("PromiseLoop", "registers", "[I", true)
  | 2 => ("PromiseLoop", "tasks", "[LPromiseLoop$Line;", true)
  | 3 => ("PromiseLoop", "microtasks", "LPromiseLoop$Line;", true)
  | 4 => ("PromiseLoop", "frames", "LPromiseLoop$Line;", true)
  | 5 => ("PromiseLoop", "log", "LPromiseLoop$Journal;", true)
  | 6 => ("PromiseLoop", "reports", "LPromiseLoop$Journal;", true)
  | 7 => ("PromiseLoop", "promises", "LPromiseLoop$Promises;", true)
  | 8 => ("PromiseLoop", "timers", "LPromiseLoop$Timers;", true)
  | 9 => ("PromiseLoop", "preferred", "I", false)
  | 10 => ("PromiseLoop", "clock", "I", false)
  | 11 => ("PromiseLoop", "framesDue", "Z", false)
  | 12 => ("PromiseLoop", "begun", "I", false)
  | 13 => ("PromiseLoop", "called", "I", false)
  | 14 => ("PromiseLoop", "timerLevel", "I", false)
  | 15 => ("PromiseLoop", "failed", "Z", false)
  | 16 => ("PromiseLoop", "resultIsPromise", "Z", false)
  | _ => ("PromiseLoop", "result", "I", false)
def tyX5 : Nat → FieldType := fun k => match k with
  | 0 => .object "PromiseLoop$Functions"
  | 1 => .array .int
  | 2 => .array (.object "PromiseLoop$Line")
  | 3 => .object "PromiseLoop$Line"
  | 4 => .object "PromiseLoop$Line"
  | 5 => .object "PromiseLoop$Journal"
  | 6 => .object "PromiseLoop$Journal"
  | 7 => .object "PromiseLoop$Promises"
  | 8 => .object "PromiseLoop$Timers"
  | 9 => .int
  | 10 => .int
  | 11 => .boolean
  | 12 => .int
  | 13 => .int
  | 14 => .int
  | 15 => .boolean
  | 16 => .boolean
  | _ => .int
abbrev wsX50 : List Cond := u_ws RX5 TX5 18
theorem nmX5 : ∀ a, a < 18 → ∀ b, b < 18 → a ≠ b → (TX5 a).2.1 ≠ (TX5 b).2.1 := by decide +kernel
theorem tyX5_ok : ∀ k, k < 18 → parseFieldDescriptor (TX5 k).2.2.1 = some (tyX5 k) := by decide +kernel
abbrev cX5_init : ByteArray := prog_1_method_1_code
def yX5_init : MethodName := ⟨RX5, "<init>", "()V"⟩
abbrev cX5_step : ByteArray := prog_1_method_2_code
def yX5_step : MethodName := ⟨RX5, "step", "(IIII)I"⟩
abbrev cX5_clear : ByteArray := prog_1_method_3_code
def yX5_clear : MethodName := ⟨RX5, "clear", "(I)V"⟩
abbrev cX5_post : ByteArray := prog_1_method_4_code
def yX5_post : MethodName := ⟨RX5, "post", "(III)I"⟩
abbrev cX5_prefer : ByteArray := prog_1_method_5_code
def yX5_prefer : MethodName := ⟨RX5, "prefer", "(I)V"⟩
abbrev cX5_turn : ByteArray := prog_1_method_6_code
def yX5_turn : MethodName := ⟨RX5, "turn", "()I"⟩
abbrev cX5_advance : ByteArray := prog_1_method_7_code
def yX5_advance : MethodName := ⟨RX5, "advance", "(I)I"⟩
abbrev cX5_register : ByteArray := prog_1_method_8_code
def yX5_register : MethodName := ⟨RX5, "register", "(I)I"⟩
abbrev cX5_state : ByteArray := prog_1_method_9_code
def yX5_state : MethodName := ⟨RX5, "state", "(I)I"⟩
abbrev cX5_value : ByteArray := prog_1_method_10_code
def yX5_value : MethodName := ⟨RX5, "value", "(I)I"⟩
abbrev cX5_count : ByteArray := prog_1_method_11_code
def yX5_count : MethodName := ⟨RX5, "count", "(I)I"⟩
abbrev cX5_logged : ByteArray := prog_1_method_12_code
def yX5_logged : MethodName := ⟨RX5, "logged", "(I)I"⟩
abbrev cX5_reported : ByteArray := prog_1_method_13_code
def yX5_reported : MethodName := ⟨RX5, "reported", "(I)I"⟩
abbrev cX5_due : ByteArray := prog_1_method_14_code
def yX5_due : MethodName := ⟨RX5, "due", "(I)I"⟩
abbrev cX5_time : ByteArray := prog_1_method_15_code
def yX5_time : MethodName := ⟨RX5, "time", "()I"⟩
abbrev cX5_isWithin : ByteArray := prog_1_method_16_code
def yX5_isWithin : MethodName := ⟨RX5, "isWithin", "(III)Z"⟩
abbrev cX5_isFunction : ByteArray := prog_1_method_17_code
def yX5_isFunction : MethodName := ⟨RX5, "isFunction", "(I)Z"⟩
abbrev cX5_isRegister : ByteArray := prog_1_method_18_code
def yX5_isRegister : MethodName := ⟨RX5, "isRegister", "(I)Z"⟩
abbrev cX5_isSource : ByteArray := prog_1_method_19_code
def yX5_isSource : MethodName := ⟨RX5, "isSource", "(I)Z"⟩
abbrev cX5_isNumber : ByteArray := prog_1_method_20_code
def yX5_isNumber : MethodName := ⟨RX5, "isNumber", "(I)Z"⟩
abbrev cX5_isChoice : ByteArray := prog_1_method_21_code
def yX5_isChoice : MethodName := ⟨RX5, "isChoice", "(I)Z"⟩
abbrev cX5_isKnown : ByteArray := prog_1_method_22_code
def yX5_isKnown : MethodName := ⟨RX5, "isKnown", "(III)Z"⟩
abbrev cX5_waitingTasks : ByteArray := prog_1_method_23_code
def yX5_waitingTasks : MethodName := ⟨RX5, "waitingTasks", "()I"⟩
abbrev cX5_checkpoint : ByteArray := prog_1_method_24_code
def yX5_checkpoint : MethodName := ⟨RX5, "checkpoint", "()Z"⟩
abbrev cX5_microtaskBeginsRun : ByteArray := prog_1_method_25_code
def yX5_microtaskBeginsRun : MethodName := ⟨RX5, "microtaskBeginsRun", "()Z"⟩
abbrev cX5_doReaction : ByteArray := prog_1_method_26_code
def yX5_doReaction : MethodName := ⟨RX5, "doReaction", "(I)V"⟩
abbrev cX5_settleWithResult : ByteArray := prog_1_method_27_code
def yX5_settleWithResult : MethodName := ⟨RX5, "settleWithResult", "(I)V"⟩
abbrev cX5_doTask : ByteArray := prog_1_method_28_code
def yX5_doTask : MethodName := ⟨RX5, "doTask", "()Z"⟩
abbrev cX5_sourceOfNextTask : ByteArray := prog_1_method_29_code
def yX5_sourceOfNextTask : MethodName := ⟨RX5, "sourceOfNextTask", "()I"⟩
abbrev cX5_doTimer : ByteArray := prog_1_method_30_code
def yX5_doTimer : MethodName := ⟨RX5, "doTimer", "(I)V"⟩
abbrev cX5_doFrame : ByteArray := prog_1_method_31_code
def yX5_doFrame : MethodName := ⟨RX5, "doFrame", "(Z)Z"⟩
abbrev cX5_reportFailure : ByteArray := prog_1_method_32_code
def yX5_reportFailure : MethodName := ⟨RX5, "reportFailure", "()V"⟩
abbrev cX5_fail : ByteArray := prog_1_method_33_code
def yX5_fail : MethodName := ⟨RX5, "fail", "(I)V"⟩
abbrev cX5_endWith : ByteArray := prog_1_method_34_code
def yX5_endWith : MethodName := ⟨RX5, "endWith", "(IZ)V"⟩
abbrev cX5_countRun : ByteArray := prog_1_method_35_code
def yX5_countRun : MethodName := ⟨RX5, "countRun", "(I)V"⟩
abbrev cX5_run : ByteArray := prog_1_method_36_code
def yX5_run : MethodName := ⟨RX5, "run", "(III)V"⟩
abbrev cX5_doStep : ByteArray := prog_1_method_37_code
def yX5_doStep : MethodName := ⟨RX5, "doStep", "(IIIII)V"⟩
abbrev cX5_postStep : ByteArray := prog_1_method_38_code
def yX5_postStep : MethodName := ⟨RX5, "postStep", "(III)V"⟩
abbrev cX5_microStep : ByteArray := prog_1_method_39_code
def yX5_microStep : MethodName := ⟨RX5, "microStep", "(II)V"⟩
abbrev cX5_timerStep : ByteArray := prog_1_method_40_code
def yX5_timerStep : MethodName := ⟨RX5, "timerStep", "(IIIZ)V"⟩
abbrev cX5_frameStep : ByteArray := prog_1_method_41_code
def yX5_frameStep : MethodName := ⟨RX5, "frameStep", "(I)V"⟩
abbrev cX5_mayCall : ByteArray := prog_1_method_42_code
def yX5_mayCall : MethodName := ⟨RX5, "mayCall", "(I)Z"⟩
abbrev cX5_callStep : ByteArray := prog_1_method_43_code
def yX5_callStep : MethodName := ⟨RX5, "callStep", "(III)V"⟩
abbrev cX5_tryStep : ByteArray := prog_1_method_44_code
def yX5_tryStep : MethodName := ⟨RX5, "tryStep", "(IIII)V"⟩
abbrev cX5_answerStep : ByteArray := prog_1_method_45_code
def yX5_answerStep : MethodName := ⟨RX5, "answerStep", "(III)V"⟩
abbrev cX5_makeStep : ByteArray := prog_1_method_46_code
def yX5_makeStep : MethodName := ⟨RX5, "makeStep", "(I)V"⟩
abbrev cX5_thenStep : ByteArray := prog_1_method_47_code
def yX5_thenStep : MethodName := ⟨RX5, "thenStep", "(III)V"⟩
def RX6 : String := "PromiseLoopModel"
def TX6 : u_T := fun k => match k with
  | 0 => ("PromiseLoopModel", "thrown", "I", false)
  | 1 => ("PromiseLoopModel", "many", "[I", false)
  | 2 => ("PromiseLoopModel", "codes", "[I", false)
  | 3 => ("PromiseLoopModel", "firsts", "[I", false)
  | 4 => ("PromiseLoopModel", "seconds", "[I", false)
  | 5 => ("PromiseLoopModel", "registers", "[I", false)
  | 6 => ("PromiseLoopModel", "promises", "I", false)
  | 7 => ("PromiseLoopModel", "state", "[I", false)
  | 8 => ("PromiseLoopModel", "value", "[I", false)
  | 9 => ("PromiseLoopModel", "resolved", "[Z", false)
  | 10 => ("PromiseLoopModel", "handled", "[Z", false)
  | 11 => ("PromiseLoopModel", "told", "[Z", false)
  | 12 => ("PromiseLoopModel", "listed", "I", false)
  | 13 => ("PromiseLoopModel", "list", "[I", false)
  | 14 => ("PromiseLoopModel", "reactions", "I", false)
  | 15 => ("PromiseLoopModel", "on", "[I", false)
  | 16 => ("PromiseLoopModel", "forValue", "[I", false)
  | 17 => ("PromiseLoopModel", "forReason", "[I", false)
  | 18 => ("PromiseLoopModel", "other", "[I", false)
  | 19 => ("PromiseLoopModel", "waits", "[Z", false)
  | 20 => ("PromiseLoopModel", "microFirst", "I", false)
  | 21 => ("PromiseLoopModel", "micros", "I", false)
  | 22 => ("PromiseLoopModel", "microKind", "[I", false)
  | 23 => ("PromiseLoopModel", "microA", "[I", false)
  | 24 => ("PromiseLoopModel", "microB", "[I", false)
  | 25 => ("PromiseLoopModel", "tasks", "I", false)
  | 26 => ("PromiseLoopModel", "taskSource", "[I", false)
  | 27 => ("PromiseLoopModel", "taskFunction", "[I", false)
  | 28 => ("PromiseLoopModel", "taskX", "[I", false)
  | 29 => ("PromiseLoopModel", "taskTimer", "[I", false)
  | 30 => ("PromiseLoopModel", "preferred", "I", false)
  | 31 => ("PromiseLoopModel", "time", "I", false)
  | 32 => ("PromiseLoopModel", "timers", "I", false)
  | 33 => ("PromiseLoopModel", "timersMade", "I", false)
  | 34 => ("PromiseLoopModel", "timerNumber", "[I", false)
  | 35 => ("PromiseLoopModel", "timerFunction", "[I", false)
  | 36 => ("PromiseLoopModel", "timerX", "[I", false)
  | 37 => ("PromiseLoopModel", "timerDelay", "[I", false)
  | 38 => ("PromiseLoopModel", "timerLevel", "[I", false)
  | 39 => ("PromiseLoopModel", "timerDue", "[I", false)
  | 40 => ("PromiseLoopModel", "timerRepeats", "[Z", false)
  | 41 => ("PromiseLoopModel", "timerPosted", "[Z", false)
  | 42 => ("PromiseLoopModel", "framesDue", "Z", false)
  | 43 => ("PromiseLoopModel", "asked", "I", false)
  | 44 => ("PromiseLoopModel", "askedFor", "[I", false)
  | 45 => ("PromiseLoopModel", "taken", "I", false)
  | 46 => ("PromiseLoopModel", "unrun", "I", false)
  | 47 => ("PromiseLoopModel", "takenOnes", "[I", false)
  | 48 => ("PromiseLoopModel", "logs", "I", false)
  | 49 => ("PromiseLoopModel", "log", "[I", false)
  | 50 => ("PromiseLoopModel", "reports", "I", false)
  | 51 => ("PromiseLoopModel", "report", "[I", false)
  | 52 => ("PromiseLoopModel", "deep", "I", false)
  | 53 => ("PromiseLoopModel", "runFunction", "[I", false)
  | 54 => ("PromiseLoopModel", "runX", "[I", false)
  | 55 => ("PromiseLoopModel", "runNext", "[I", false)
  | 56 => ("PromiseLoopModel", "runPromise", "[Z", false)
  | 57 => ("PromiseLoopModel", "runResult", "[I", false)
  | 58 => ("PromiseLoopModel", "runKind", "[I", false)
  | 59 => ("PromiseLoopModel", "runOther", "[I", false)
  | 60 => ("PromiseLoopModel", "level", "I", false)
  | 61 => ("PromiseLoopModel", "nested", "I", false)
  | 62 => ("PromiseLoopModel", "runs", "I", false)
  | 63 => ("PromiseLoopModel", "failed", "Z", false)
  | 64 => ("PromiseLoopModel", "failure", "I", false)
  | 65 => ("PromiseLoopModel", "resultIsPromise", "Z", false)
  | _ => ("PromiseLoopModel", "result", "I", false)
def tyX6 : Nat → FieldType := fun k => match k with
  | 0 => .int
  | 1 => .array .int
  | 2 => .array .int
  | 3 => .array .int
  | 4 => .array .int
  | 5 => .array .int
  | 6 => .int
  | 7 => .array .int
  | 8 => .array .int
  | 9 => .array .boolean
  | 10 => .array .boolean
  | 11 => .array .boolean
  | 12 => .int
  | 13 => .array .int
  | 14 => .int
  | 15 => .array .int
  | 16 => .array .int
  | 17 => .array .int
  | 18 => .array .int
  | 19 => .array .boolean
  | 20 => .int
  | 21 => .int
  | 22 => .array .int
  | 23 => .array .int
  | 24 => .array .int
  | 25 => .int
  | 26 => .array .int
  | 27 => .array .int
  | 28 => .array .int
  | 29 => .array .int
  | 30 => .int
  | 31 => .int
  | 32 => .int
  | 33 => .int
  | 34 => .array .int
  | 35 => .array .int
  | 36 => .array .int
  | 37 => .array .int
  | 38 => .array .int
  | 39 => .array .int
  | 40 => .array .boolean
  | 41 => .array .boolean
  | 42 => .boolean
  | 43 => .int
  | 44 => .array .int
  | 45 => .int
  | 46 => .int
  | 47 => .array .int
  | 48 => .int
  | 49 => .array .int
  | 50 => .int
  | 51 => .array .int
  | 52 => .int
  | 53 => .array .int
  | 54 => .array .int
  | 55 => .array .int
  | 56 => .array .boolean
  | 57 => .array .int
  | 58 => .array .int
  | 59 => .array .int
  | 60 => .int
  | 61 => .int
  | 62 => .int
  | 63 => .boolean
  | 64 => .int
  | 65 => .boolean
  | _ => .int
abbrev wsX60 : List Cond := u_ws RX6 TX6 67
theorem nmX6 : ∀ a, a < 67 → ∀ b, b < 67 → a ≠ b → (TX6 a).2.1 ≠ (TX6 b).2.1 := by decide +kernel
theorem tyX6_ok : ∀ k, k < 67 → parseFieldDescriptor (TX6 k).2.2.1 = some (tyX6 k) := by decide +kernel
abbrev cX6_init : ByteArray := prog_8_method_1_code
def yX6_init : MethodName := ⟨RX6, "<init>", "()V"⟩
abbrev cX6_thrown : ByteArray := prog_8_method_2_code
def yX6_thrown : MethodName := ⟨RX6, "thrown", "()I"⟩
abbrev cX6_outside : ByteArray := prog_8_method_3_code
def yX6_outside : MethodName := ⟨RX6, "outside", "(III)Z"⟩
abbrev cX6_fits : ByteArray := prog_8_method_4_code
def yX6_fits : MethodName := ⟨RX6, "fits", "(III)Z"⟩
abbrev cX6_step : ByteArray := prog_8_method_5_code
def yX6_step : MethodName := ⟨RX6, "step", "(IIII)I"⟩
abbrev cX6_clear : ByteArray := prog_8_method_6_code
def yX6_clear : MethodName := ⟨RX6, "clear", "(I)V"⟩
abbrev cX6_addTask : ByteArray := prog_8_method_7_code
def yX6_addTask : MethodName := ⟨RX6, "addTask", "(IIII)V"⟩
abbrev cX6_addMicro : ByteArray := prog_8_method_8_code
def yX6_addMicro : MethodName := ⟨RX6, "addMicro", "(III)V"⟩
abbrev cX6_tell : ByteArray := prog_8_method_9_code
def yX6_tell : MethodName := ⟨RX6, "tell", "(II)V"⟩
abbrev cX6_post : ByteArray := prog_8_method_10_code
def yX6_post : MethodName := ⟨RX6, "post", "(III)I"⟩
abbrev cX6_prefer : ByteArray := prog_8_method_11_code
def yX6_prefer : MethodName := ⟨RX6, "prefer", "(I)V"⟩
abbrev cX6_makePromise : ByteArray := prog_8_method_12_code
def yX6_makePromise : MethodName := ⟨RX6, "makePromise", "()I"⟩
abbrev cX6_settle : ByteArray := prog_8_method_13_code
def yX6_settle : MethodName := ⟨RX6, "settle", "(III)V"⟩
abbrev cX6_reject : ByteArray := prog_8_method_14_code
def yX6_reject : MethodName := ⟨RX6, "reject", "(II)V"⟩
abbrev cX6_resolve : ByteArray := prog_8_method_15_code
def yX6_resolve : MethodName := ⟨RX6, "resolve", "(IZI)V"⟩
abbrev cX6_react : ByteArray := prog_8_method_16_code
def yX6_react : MethodName := ⟨RX6, "react", "(IIII)V"⟩
abbrev cX6_timerAt : ByteArray := prog_8_method_17_code
def yX6_timerAt : MethodName := ⟨RX6, "timerAt", "(I)I"⟩
abbrev cX6_dropTimer : ByteArray := prog_8_method_18_code
def yX6_dropTimer : MethodName := ⟨RX6, "dropTimer", "(I)V"⟩
abbrev cX6_dueOf : ByteArray := prog_8_method_19_code
def yX6_dueOf : MethodName := ⟨RX6, "dueOf", "(I)I"⟩
abbrev cX6_addTimer : ByteArray := prog_8_method_20_code
def yX6_addTimer : MethodName := ⟨RX6, "addTimer", "(IIIZ)V"⟩
abbrev cX6_advance : ByteArray := prog_8_method_21_code
def yX6_advance : MethodName := ⟨RX6, "advance", "(I)I"⟩
abbrev cX6_fail : ByteArray := prog_8_method_22_code
def yX6_fail : MethodName := ⟨RX6, "fail", "(I)V"⟩
abbrev cX6_begin : ByteArray := prog_8_method_23_code
def yX6_begin : MethodName := ⟨RX6, "begin", "(IIII)V"⟩
abbrev cX6_nest : ByteArray := prog_8_method_24_code
def yX6_nest : MethodName := ⟨RX6, "nest", "(III)V"⟩
abbrev cX6_then : ByteArray := prog_8_method_25_code
def yX6_then : MethodName := ⟨RX6, "then", "(II)V"⟩
abbrev cX6_answer : ByteArray := prog_8_method_26_code
def yX6_answer : MethodName := ⟨RX6, "answer", "(III)V"⟩
abbrev cX6_place : ByteArray := prog_8_method_27_code
def yX6_place : MethodName := ⟨RX6, "place", "(IIII)V"⟩
abbrev cX6_promiseStep : ByteArray := prog_8_method_28_code
def yX6_promiseStep : MethodName := ⟨RX6, "promiseStep", "(IIII)V"⟩
abbrev cX6_doStep : ByteArray := prog_8_method_29_code
def yX6_doStep : MethodName := ⟨RX6, "doStep", "(I)V"⟩
abbrev cX6_takenUp : ByteArray := prog_8_method_30_code
def yX6_takenUp : MethodName := ⟨RX6, "takenUp", "()Z"⟩
abbrev cX6_run : ByteArray := prog_8_method_31_code
def yX6_run : MethodName := ⟨RX6, "run", "(II)Z"⟩
abbrev cX6_runAndTell : ByteArray := prog_8_method_32_code
def yX6_runAndTell : MethodName := ⟨RX6, "runAndTell", "(II)V"⟩
abbrev cX6_functionOf : ByteArray := prog_8_method_33_code
def yX6_functionOf : MethodName := ⟨RX6, "functionOf", "(I)I"⟩
abbrev cX6_doReaction : ByteArray := prog_8_method_34_code
def yX6_doReaction : MethodName := ⟨RX6, "doReaction", "(I)V"⟩
abbrev cX6_checkpoint : ByteArray := prog_8_method_35_code
def yX6_checkpoint : MethodName := ⟨RX6, "checkpoint", "()Z"⟩
abbrev cX6_nextTask : ByteArray := prog_8_method_36_code
def yX6_nextTask : MethodName := ⟨RX6, "nextTask", "()I"⟩
abbrev cX6_dropTask : ByteArray := prog_8_method_37_code
def yX6_dropTask : MethodName := ⟨RX6, "dropTask", "(I)V"⟩
abbrev cX6_doTimer : ByteArray := prog_8_method_38_code
def yX6_doTimer : MethodName := ⟨RX6, "doTimer", "(I)V"⟩
abbrev cX6_doTask : ByteArray := prog_8_method_39_code
def yX6_doTask : MethodName := ⟨RX6, "doTask", "()Z"⟩
abbrev cX6_giveBack : ByteArray := prog_8_method_40_code
def yX6_giveBack : MethodName := ⟨RX6, "giveBack", "(I)V"⟩
abbrev cX6_doFrames : ByteArray := prog_8_method_41_code
def yX6_doFrames : MethodName := ⟨RX6, "doFrames", "()V"⟩
abbrev cX6_turn : ByteArray := prog_8_method_42_code
def yX6_turn : MethodName := ⟨RX6, "turn", "()I"⟩
abbrev cX6_register : ByteArray := prog_8_method_43_code
def yX6_register : MethodName := ⟨RX6, "register", "(I)I"⟩
abbrev cX6_state : ByteArray := prog_8_method_44_code
def yX6_state : MethodName := ⟨RX6, "state", "(I)I"⟩
abbrev cX6_value : ByteArray := prog_8_method_45_code
def yX6_value : MethodName := ⟨RX6, "value", "(I)I"⟩
abbrev cX6_count : ByteArray := prog_8_method_46_code
def yX6_count : MethodName := ⟨RX6, "count", "(I)I"⟩
abbrev cX6_logged : ByteArray := prog_8_method_47_code
def yX6_logged : MethodName := ⟨RX6, "logged", "(I)I"⟩
abbrev cX6_reported : ByteArray := prog_8_method_48_code
def yX6_reported : MethodName := ⟨RX6, "reported", "(I)I"⟩
abbrev cX6_due : ByteArray := prog_8_method_49_code
def yX6_due : MethodName := ⟨RX6, "due", "(I)I"⟩
abbrev cX6_time : ByteArray := prog_8_method_50_code
def yX6_time : MethodName := ⟨RX6, "time", "()I"⟩
def RJ0 : String := "java/lang/String"
def TJ0 : u_T := fun k => match k with
  | _ => ("", "", "", false)
def tyJ0 : Nat → FieldType := fun k => match k with
  | _ => .int
abbrev wsJ00 : List Cond := u_ws RJ0 TJ0 0
theorem nmJ0 : ∀ a, a < 0 → ∀ b, b < 0 → a ≠ b → (TJ0 a).2.1 ≠ (TJ0 b).2.1 := by decide +kernel
theorem tyJ0_ok : ∀ k, k < 0 → parseFieldDescriptor (TJ0 k).2.2.1 = some (tyJ0 k) := by decide +kernel
def RL : String := "PromiseLoopLaw"
abbrev cL_step : ByteArray := method_3_code
def yL_step : MethodName := ⟨RL, "step", "(LPromiseLoop;IIII[J)I"⟩
abbrev cL_clear : ByteArray := method_4_code
def yL_clear : MethodName := ⟨RL, "clear", "(LPromiseLoop;I)I"⟩
abbrev cL_post : ByteArray := method_5_code
def yL_post : MethodName := ⟨RL, "post", "(LPromiseLoop;III[J)I"⟩
abbrev cL_prefer : ByteArray := method_6_code
def yL_prefer : MethodName := ⟨RL, "prefer", "(LPromiseLoop;I)I"⟩
abbrev cL_advance : ByteArray := method_7_code
def yL_advance : MethodName := ⟨RL, "advance", "(LPromiseLoop;I[J)I"⟩
abbrev cL_register : ByteArray := method_8_code
def yL_register : MethodName := ⟨RL, "register", "(LPromiseLoop;I[J)I"⟩
abbrev cL_state : ByteArray := method_9_code
def yL_state : MethodName := ⟨RL, "state", "(LPromiseLoop;I[J)I"⟩
abbrev cL_value : ByteArray := method_10_code
def yL_value : MethodName := ⟨RL, "value", "(LPromiseLoop;I[J)I"⟩
abbrev cL_count : ByteArray := method_11_code
def yL_count : MethodName := ⟨RL, "count", "(LPromiseLoop;I[J)I"⟩
abbrev cL_logged : ByteArray := method_12_code
def yL_logged : MethodName := ⟨RL, "logged", "(LPromiseLoop;I[J)I"⟩
abbrev cL_reported : ByteArray := method_13_code
def yL_reported : MethodName := ⟨RL, "reported", "(LPromiseLoop;I[J)I"⟩
abbrev cL_law : ByteArray := code
def yL_law : MethodName := ⟨RL, "law", "([I)Z"⟩
abbrev vwCl : List vw_C := [(RX0, TX0, 4), (RX1, TX1, 2), (RX2, TX2, 6), (RX3, TX3, 15), (RX4, TX4, 10), (RX5, TX5, 18), (RX6, TX6, 67)]
end
section
theorem dX0_init_0 : decode cX0_init 0 = .ok (.aload_n 0, 1) := by decide +kernel
theorem dX0_init_1 : decode cX0_init 1 = .ok (.invokespecial 3, 3) := by decide +kernel
theorem dX0_init_4 : decode cX0_init 4 = .ok (.aload_n 0, 1) := by decide +kernel
theorem dX0_init_5 : decode cX0_init 5 = .ok (.bipush 10, 2) := by decide +kernel
theorem dX0_init_7 : decode cX0_init 7 = .ok (.newarray .int, 2) := by decide +kernel
theorem dX0_init_9 : decode cX0_init 9 = .ok (.putfield 9, 3) := by decide +kernel
theorem dX0_init_12 : decode cX0_init 12 = .ok (.aload_n 0, 1) := by decide +kernel
theorem dX0_init_13 : decode cX0_init 13 = .ok (.bipush 60, 2) := by decide +kernel
theorem dX0_init_15 : decode cX0_init 15 = .ok (.newarray .int, 2) := by decide +kernel
theorem dX0_init_17 : decode cX0_init 17 = .ok (.putfield 15, 3) := by decide +kernel
theorem dX0_init_20 : decode cX0_init 20 = .ok (.aload_n 0, 1) := by decide +kernel
theorem dX0_init_21 : decode cX0_init 21 = .ok (.bipush 60, 2) := by decide +kernel
theorem dX0_init_23 : decode cX0_init 23 = .ok (.newarray .int, 2) := by decide +kernel
theorem dX0_init_25 : decode cX0_init 25 = .ok (.putfield 18, 3) := by decide +kernel
theorem dX0_init_28 : decode cX0_init 28 = .ok (.aload_n 0, 1) := by decide +kernel
theorem dX0_init_29 : decode cX0_init 29 = .ok (.bipush 60, 2) := by decide +kernel
theorem dX0_init_31 : decode cX0_init 31 = .ok (.newarray .int, 2) := by decide +kernel
theorem dX0_init_33 : decode cX0_init 33 = .ok (.putfield 21, 3) := by decide +kernel
theorem dX0_init_36 : decode cX0_init 36 = .ok (.return_, 1) := by decide +kernel
theorem dX0_length_0 : decode cX0_length 0 = .ok (.aload_n 0, 1) := by decide +kernel
theorem dX0_length_1 : decode cX0_length 1 = .ok (.getfield 9, 3) := by decide +kernel
theorem dX0_length_4 : decode cX0_length 4 = .ok (.iload_n 1, 1) := by decide +kernel
theorem dX0_length_5 : decode cX0_length 5 = .ok (.iaload, 1) := by decide +kernel
theorem dX0_length_6 : decode cX0_length 6 = .ok (.ireturn, 1) := by decide +kernel
theorem dX0_code_0 : decode cX0_code 0 = .ok (.aload_n 0, 1) := by decide +kernel
theorem dX0_code_1 : decode cX0_code 1 = .ok (.getfield 15, 3) := by decide +kernel
theorem dX0_code_4 : decode cX0_code 4 = .ok (.iload_n 1, 1) := by decide +kernel
theorem dX0_code_5 : decode cX0_code 5 = .ok (.bipush 6, 2) := by decide +kernel
theorem dX0_code_7 : decode cX0_code 7 = .ok (.imul, 1) := by decide +kernel
theorem dX0_code_8 : decode cX0_code 8 = .ok (.iload_n 2, 1) := by decide +kernel
theorem dX0_code_9 : decode cX0_code 9 = .ok (.iadd, 1) := by decide +kernel
theorem dX0_code_10 : decode cX0_code 10 = .ok (.iaload, 1) := by decide +kernel
theorem dX0_code_11 : decode cX0_code 11 = .ok (.ireturn, 1) := by decide +kernel
theorem dX0_a_0 : decode cX0_a 0 = .ok (.aload_n 0, 1) := by decide +kernel
theorem dX0_a_1 : decode cX0_a 1 = .ok (.getfield 18, 3) := by decide +kernel
theorem dX0_a_4 : decode cX0_a 4 = .ok (.iload_n 1, 1) := by decide +kernel
theorem dX0_a_5 : decode cX0_a 5 = .ok (.bipush 6, 2) := by decide +kernel
theorem dX0_a_7 : decode cX0_a 7 = .ok (.imul, 1) := by decide +kernel
theorem dX0_a_8 : decode cX0_a 8 = .ok (.iload_n 2, 1) := by decide +kernel
theorem dX0_a_9 : decode cX0_a 9 = .ok (.iadd, 1) := by decide +kernel
theorem dX0_a_10 : decode cX0_a 10 = .ok (.iaload, 1) := by decide +kernel
theorem dX0_a_11 : decode cX0_a 11 = .ok (.ireturn, 1) := by decide +kernel
theorem dX0_b_0 : decode cX0_b 0 = .ok (.aload_n 0, 1) := by decide +kernel
theorem dX0_b_1 : decode cX0_b 1 = .ok (.getfield 21, 3) := by decide +kernel
theorem dX0_b_4 : decode cX0_b 4 = .ok (.iload_n 1, 1) := by decide +kernel
theorem dX0_b_5 : decode cX0_b 5 = .ok (.bipush 6, 2) := by decide +kernel
theorem dX0_b_7 : decode cX0_b 7 = .ok (.imul, 1) := by decide +kernel
theorem dX0_b_8 : decode cX0_b 8 = .ok (.iload_n 2, 1) := by decide +kernel
theorem dX0_b_9 : decode cX0_b 9 = .ok (.iadd, 1) := by decide +kernel
theorem dX0_b_10 : decode cX0_b 10 = .ok (.iaload, 1) := by decide +kernel
theorem dX0_b_11 : decode cX0_b 11 = .ok (.ireturn, 1) := by decide +kernel
theorem dX0_empty_0 : decode cX0_empty 0 = .ok (.aload_n 0, 1) := by decide +kernel
theorem dX0_empty_1 : decode cX0_empty 1 = .ok (.getfield 9, 3) := by decide +kernel
theorem dX0_empty_4 : decode cX0_empty 4 = .ok (.iload_n 1, 1) := by decide +kernel
theorem dX0_empty_5 : decode cX0_empty 5 = .ok (.iconst 0, 1) := by decide +kernel
theorem dX0_empty_6 : decode cX0_empty 6 = .ok (.iastore, 1) := by decide +kernel
theorem dX0_empty_7 : decode cX0_empty 7 = .ok (.return_, 1) := by decide +kernel
theorem dX0_add_0 : decode cX0_add 0 = .ok (.aload_n 0, 1) := by decide +kernel
theorem dX0_add_1 : decode cX0_add 1 = .ok (.getfield 9, 3) := by decide +kernel
theorem dX0_add_4 : decode cX0_add 4 = .ok (.iload_n 1, 1) := by decide +kernel
theorem dX0_add_5 : decode cX0_add 5 = .ok (.iaload, 1) := by decide +kernel
theorem dX0_add_6 : decode cX0_add 6 = .ok (.bipush 6, 2) := by decide +kernel
theorem dX0_add_8 : decode cX0_add 8 = .ok (.if_icmp .lt 4, 3) := by decide +kernel
theorem dX0_add_11 : decode cX0_add 11 = .ok (.return_, 1) := by decide +kernel
theorem dX0_add_12 : decode cX0_add 12 = .ok (.iload_n 1, 1) := by decide +kernel
theorem dX0_add_13 : decode cX0_add 13 = .ok (.bipush 6, 2) := by decide +kernel
theorem dX0_add_15 : decode cX0_add 15 = .ok (.imul, 1) := by decide +kernel
theorem dX0_add_16 : decode cX0_add 16 = .ok (.aload_n 0, 1) := by decide +kernel
theorem dX0_add_17 : decode cX0_add 17 = .ok (.getfield 9, 3) := by decide +kernel
theorem dX0_add_20 : decode cX0_add 20 = .ok (.iload_n 1, 1) := by decide +kernel
theorem dX0_add_21 : decode cX0_add 21 = .ok (.iaload, 1) := by decide +kernel
theorem dX0_add_22 : decode cX0_add 22 = .ok (.iadd, 1) := by decide +kernel
theorem dX0_add_23 : decode cX0_add 23 = .ok (.istore 5, 2) := by decide +kernel
theorem dX0_add_25 : decode cX0_add 25 = .ok (.aload_n 0, 1) := by decide +kernel
theorem dX0_add_26 : decode cX0_add 26 = .ok (.getfield 15, 3) := by decide +kernel
theorem dX0_add_29 : decode cX0_add 29 = .ok (.iload 5, 2) := by decide +kernel
theorem dX0_add_31 : decode cX0_add 31 = .ok (.iload_n 2, 1) := by decide +kernel
theorem dX0_add_32 : decode cX0_add 32 = .ok (.iastore, 1) := by decide +kernel
theorem dX0_add_33 : decode cX0_add 33 = .ok (.aload_n 0, 1) := by decide +kernel
theorem dX0_add_34 : decode cX0_add 34 = .ok (.getfield 18, 3) := by decide +kernel
theorem dX0_add_37 : decode cX0_add 37 = .ok (.iload 5, 2) := by decide +kernel
theorem dX0_add_39 : decode cX0_add 39 = .ok (.iload_n 3, 1) := by decide +kernel
theorem dX0_add_40 : decode cX0_add 40 = .ok (.iastore, 1) := by decide +kernel
theorem dX0_add_41 : decode cX0_add 41 = .ok (.aload_n 0, 1) := by decide +kernel
theorem dX0_add_42 : decode cX0_add 42 = .ok (.getfield 21, 3) := by decide +kernel
theorem dX0_add_45 : decode cX0_add 45 = .ok (.iload 5, 2) := by decide +kernel
theorem dX0_add_47 : decode cX0_add 47 = .ok (.iload 4, 2) := by decide +kernel
theorem dX0_add_49 : decode cX0_add 49 = .ok (.iastore, 1) := by decide +kernel
theorem dX0_add_50 : decode cX0_add 50 = .ok (.aload_n 0, 1) := by decide +kernel
theorem dX0_add_51 : decode cX0_add 51 = .ok (.getfield 9, 3) := by decide +kernel
theorem dX0_add_54 : decode cX0_add 54 = .ok (.iload_n 1, 1) := by decide +kernel
theorem dX0_add_55 : decode cX0_add 55 = .ok (.dup2, 1) := by decide +kernel
theorem dX0_add_56 : decode cX0_add 56 = .ok (.iaload, 1) := by decide +kernel
theorem dX0_add_57 : decode cX0_add 57 = .ok (.iconst 1, 1) := by decide +kernel
theorem dX0_add_58 : decode cX0_add 58 = .ok (.iadd, 1) := by decide +kernel
theorem dX0_add_59 : decode cX0_add 59 = .ok (.iastore, 1) := by decide +kernel
theorem dX0_add_60 : decode cX0_add 60 = .ok (.return_, 1) := by decide +kernel
theorem dX1_init_0 : decode cX1_init 0 = .ok (.aload_n 0, 1) := by decide +kernel
theorem dX1_init_1 : decode cX1_init 1 = .ok (.invokespecial 3, 3) := by decide +kernel
theorem dX1_init_4 : decode cX1_init 4 = .ok (.aload_n 0, 1) := by decide +kernel
theorem dX1_init_5 : decode cX1_init 5 = .ok (.sipush 200, 3) := by decide +kernel
theorem dX1_init_8 : decode cX1_init 8 = .ok (.newarray .int, 2) := by decide +kernel
theorem dX1_init_10 : decode cX1_init 10 = .ok (.putfield 9, 3) := by decide +kernel
theorem dX1_init_13 : decode cX1_init 13 = .ok (.aload_n 0, 1) := by decide +kernel
theorem dX1_init_14 : decode cX1_init 14 = .ok (.iconst 0, 1) := by decide +kernel
theorem dX1_init_15 : decode cX1_init 15 = .ok (.putfield 15, 3) := by decide +kernel
theorem dX1_init_18 : decode cX1_init 18 = .ok (.return_, 1) := by decide +kernel
theorem dX1_size_0 : decode cX1_size 0 = .ok (.aload_n 0, 1) := by decide +kernel
theorem dX1_size_1 : decode cX1_size 1 = .ok (.getfield 15, 3) := by decide +kernel
theorem dX1_size_4 : decode cX1_size 4 = .ok (.ireturn, 1) := by decide +kernel
theorem dX1_has_0 : decode cX1_has 0 = .ok (.iload_n 1, 1) := by decide +kernel
theorem dX1_has_1 : decode cX1_has 1 = .ok (.ifCond .lt 15, 3) := by decide +kernel
theorem dX1_has_4 : decode cX1_has 4 = .ok (.iload_n 1, 1) := by decide +kernel
theorem dX1_has_5 : decode cX1_has 5 = .ok (.aload_n 0, 1) := by decide +kernel
theorem dX1_has_6 : decode cX1_has 6 = .ok (.getfield 15, 3) := by decide +kernel
theorem dX1_has_9 : decode cX1_has 9 = .ok (.if_icmp .ge 7, 3) := by decide +kernel
theorem dX1_has_12 : decode cX1_has 12 = .ok (.iconst 1, 1) := by decide +kernel
theorem dX1_has_13 : decode cX1_has 13 = .ok (.goto 4, 3) := by decide +kernel
theorem dX1_has_16 : decode cX1_has 16 = .ok (.iconst 0, 1) := by decide +kernel
theorem dX1_has_17 : decode cX1_has 17 = .ok (.ireturn, 1) := by decide +kernel
theorem dX1_at_0 : decode cX1_at 0 = .ok (.aload_n 0, 1) := by decide +kernel
theorem dX1_at_1 : decode cX1_at 1 = .ok (.getfield 9, 3) := by decide +kernel
theorem dX1_at_4 : decode cX1_at 4 = .ok (.iload_n 1, 1) := by decide +kernel
theorem dX1_at_5 : decode cX1_at 5 = .ok (.iaload, 1) := by decide +kernel
theorem dX1_at_6 : decode cX1_at 6 = .ok (.ireturn, 1) := by decide +kernel
theorem dX1_keep_0 : decode cX1_keep 0 = .ok (.aload_n 0, 1) := by decide +kernel
theorem dX1_keep_1 : decode cX1_keep 1 = .ok (.getfield 15, 3) := by decide +kernel
theorem dX1_keep_4 : decode cX1_keep 4 = .ok (.sipush 200, 3) := by decide +kernel
theorem dX1_keep_7 : decode cX1_keep 7 = .ok (.if_icmp .ge 23, 3) := by decide +kernel
theorem dX1_keep_10 : decode cX1_keep 10 = .ok (.aload_n 0, 1) := by decide +kernel
theorem dX1_keep_11 : decode cX1_keep 11 = .ok (.getfield 9, 3) := by decide +kernel
theorem dX1_keep_14 : decode cX1_keep 14 = .ok (.aload_n 0, 1) := by decide +kernel
theorem dX1_keep_15 : decode cX1_keep 15 = .ok (.getfield 15, 3) := by decide +kernel
theorem dX1_keep_18 : decode cX1_keep 18 = .ok (.iload_n 1, 1) := by decide +kernel
theorem dX1_keep_19 : decode cX1_keep 19 = .ok (.iastore, 1) := by decide +kernel
theorem dX1_keep_20 : decode cX1_keep 20 = .ok (.aload_n 0, 1) := by decide +kernel
theorem dX1_keep_21 : decode cX1_keep 21 = .ok (.dup, 1) := by decide +kernel
theorem dX1_keep_22 : decode cX1_keep 22 = .ok (.getfield 15, 3) := by decide +kernel
theorem dX1_keep_25 : decode cX1_keep 25 = .ok (.iconst 1, 1) := by decide +kernel
theorem dX1_keep_26 : decode cX1_keep 26 = .ok (.iadd, 1) := by decide +kernel
theorem dX1_keep_27 : decode cX1_keep 27 = .ok (.putfield 15, 3) := by decide +kernel
theorem dX1_keep_30 : decode cX1_keep 30 = .ok (.return_, 1) := by decide +kernel
theorem dX2_init_0 : decode cX2_init 0 = .ok (.aload_n 0, 1) := by decide +kernel
theorem dX2_init_1 : decode cX2_init 1 = .ok (.invokespecial 1, 3) := by decide +kernel
theorem dX2_init_4 : decode cX2_init 4 = .ok (.aload_n 0, 1) := by decide +kernel
theorem dX2_init_5 : decode cX2_init 5 = .ok (.iconst 0, 1) := by decide +kernel
theorem dX2_init_6 : decode cX2_init 6 = .ok (.putfield 7, 3) := by decide +kernel
theorem dX2_init_9 : decode cX2_init 9 = .ok (.aload_n 0, 1) := by decide +kernel
theorem dX2_init_10 : decode cX2_init 10 = .ok (.iconst 0, 1) := by decide +kernel
theorem dX2_init_11 : decode cX2_init 11 = .ok (.putfield 13, 3) := by decide +kernel
theorem dX2_init_14 : decode cX2_init 14 = .ok (.aload_n 0, 1) := by decide +kernel
theorem dX2_init_15 : decode cX2_init 15 = .ok (.iload_n 1, 1) := by decide +kernel
theorem dX2_init_16 : decode cX2_init 16 = .ok (.putfield 16, 3) := by decide +kernel
theorem dX2_init_19 : decode cX2_init 19 = .ok (.aload_n 0, 1) := by decide +kernel
theorem dX2_init_20 : decode cX2_init 20 = .ok (.iload_n 1, 1) := by decide +kernel
theorem dX2_init_21 : decode cX2_init 21 = .ok (.newarray .int, 2) := by decide +kernel
theorem dX2_init_23 : decode cX2_init 23 = .ok (.putfield 19, 3) := by decide +kernel
theorem dX2_init_26 : decode cX2_init 26 = .ok (.aload_n 0, 1) := by decide +kernel
theorem dX2_init_27 : decode cX2_init 27 = .ok (.iload_n 1, 1) := by decide +kernel
theorem dX2_init_28 : decode cX2_init 28 = .ok (.newarray .int, 2) := by decide +kernel
theorem dX2_init_30 : decode cX2_init 30 = .ok (.putfield 23, 3) := by decide +kernel
theorem dX2_init_33 : decode cX2_init 33 = .ok (.aload_n 0, 1) := by decide +kernel
theorem dX2_init_34 : decode cX2_init 34 = .ok (.iload_n 1, 1) := by decide +kernel
theorem dX2_init_35 : decode cX2_init 35 = .ok (.newarray .int, 2) := by decide +kernel
theorem dX2_init_37 : decode cX2_init 37 = .ok (.putfield 26, 3) := by decide +kernel
theorem dX2_init_40 : decode cX2_init 40 = .ok (.return_, 1) := by decide +kernel
theorem dX2_size_0 : decode cX2_size 0 = .ok (.aload_n 0, 1) := by decide +kernel
theorem dX2_size_1 : decode cX2_size 1 = .ok (.getfield 13, 3) := by decide +kernel
theorem dX2_size_4 : decode cX2_size 4 = .ok (.ireturn, 1) := by decide +kernel
theorem dX2_kind_0 : decode cX2_kind 0 = .ok (.aload_n 0, 1) := by decide +kernel
theorem dX2_kind_1 : decode cX2_kind 1 = .ok (.getfield 19, 3) := by decide +kernel
theorem dX2_kind_4 : decode cX2_kind 4 = .ok (.aload_n 0, 1) := by decide +kernel
theorem dX2_kind_5 : decode cX2_kind 5 = .ok (.getfield 7, 3) := by decide +kernel
theorem dX2_kind_8 : decode cX2_kind 8 = .ok (.iaload, 1) := by decide +kernel
theorem dX2_kind_9 : decode cX2_kind 9 = .ok (.ireturn, 1) := by decide +kernel
theorem dX2_subject_0 : decode cX2_subject 0 = .ok (.aload_n 0, 1) := by decide +kernel
theorem dX2_subject_1 : decode cX2_subject 1 = .ok (.getfield 23, 3) := by decide +kernel
theorem dX2_subject_4 : decode cX2_subject 4 = .ok (.aload_n 0, 1) := by decide +kernel
theorem dX2_subject_5 : decode cX2_subject 5 = .ok (.getfield 7, 3) := by decide +kernel
theorem dX2_subject_8 : decode cX2_subject 8 = .ok (.iaload, 1) := by decide +kernel
theorem dX2_subject_9 : decode cX2_subject 9 = .ok (.ireturn, 1) := by decide +kernel
theorem dX2_number_0 : decode cX2_number 0 = .ok (.aload_n 0, 1) := by decide +kernel
theorem dX2_number_1 : decode cX2_number 1 = .ok (.getfield 26, 3) := by decide +kernel
theorem dX2_number_4 : decode cX2_number 4 = .ok (.aload_n 0, 1) := by decide +kernel
theorem dX2_number_5 : decode cX2_number 5 = .ok (.getfield 7, 3) := by decide +kernel
theorem dX2_number_8 : decode cX2_number 8 = .ok (.iaload, 1) := by decide +kernel
theorem dX2_number_9 : decode cX2_number 9 = .ok (.ireturn, 1) := by decide +kernel
theorem dX2_put_0 : decode cX2_put 0 = .ok (.aload_n 0, 1) := by decide +kernel
theorem dX2_put_1 : decode cX2_put 1 = .ok (.getfield 13, 3) := by decide +kernel
theorem dX2_put_4 : decode cX2_put 4 = .ok (.aload_n 0, 1) := by decide +kernel
theorem dX2_put_5 : decode cX2_put 5 = .ok (.getfield 16, 3) := by decide +kernel
theorem dX2_put_8 : decode cX2_put 8 = .ok (.if_icmp .lt 4, 3) := by decide +kernel
theorem dX2_put_11 : decode cX2_put 11 = .ok (.return_, 1) := by decide +kernel
theorem dX2_put_12 : decode cX2_put 12 = .ok (.aload_n 0, 1) := by decide +kernel
theorem dX2_put_13 : decode cX2_put 13 = .ok (.getfield 7, 3) := by decide +kernel
theorem dX2_put_16 : decode cX2_put 16 = .ok (.aload_n 0, 1) := by decide +kernel
theorem dX2_put_17 : decode cX2_put 17 = .ok (.getfield 13, 3) := by decide +kernel
theorem dX2_put_20 : decode cX2_put 20 = .ok (.iadd, 1) := by decide +kernel
theorem dX2_put_21 : decode cX2_put 21 = .ok (.aload_n 0, 1) := by decide +kernel
theorem dX2_put_22 : decode cX2_put 22 = .ok (.getfield 16, 3) := by decide +kernel
theorem dX2_put_25 : decode cX2_put 25 = .ok (.if_icmp .ge 15, 3) := by decide +kernel
theorem dX2_put_28 : decode cX2_put 28 = .ok (.aload_n 0, 1) := by decide +kernel
theorem dX2_put_29 : decode cX2_put 29 = .ok (.getfield 7, 3) := by decide +kernel
theorem dX2_put_32 : decode cX2_put 32 = .ok (.aload_n 0, 1) := by decide +kernel
theorem dX2_put_33 : decode cX2_put 33 = .ok (.getfield 13, 3) := by decide +kernel
theorem dX2_put_36 : decode cX2_put 36 = .ok (.iadd, 1) := by decide +kernel
theorem dX2_put_37 : decode cX2_put 37 = .ok (.goto 17, 3) := by decide +kernel
theorem dX2_put_40 : decode cX2_put 40 = .ok (.aload_n 0, 1) := by decide +kernel
theorem dX2_put_41 : decode cX2_put 41 = .ok (.getfield 7, 3) := by decide +kernel
theorem dX2_put_44 : decode cX2_put 44 = .ok (.aload_n 0, 1) := by decide +kernel
theorem dX2_put_45 : decode cX2_put 45 = .ok (.getfield 13, 3) := by decide +kernel
theorem dX2_put_48 : decode cX2_put 48 = .ok (.iadd, 1) := by decide +kernel
theorem dX2_put_49 : decode cX2_put 49 = .ok (.aload_n 0, 1) := by decide +kernel
theorem dX2_put_50 : decode cX2_put 50 = .ok (.getfield 16, 3) := by decide +kernel
theorem dX2_put_53 : decode cX2_put 53 = .ok (.isub, 1) := by decide +kernel
theorem dX2_put_54 : decode cX2_put 54 = .ok (.istore 4, 2) := by decide +kernel
theorem dX2_put_56 : decode cX2_put 56 = .ok (.aload_n 0, 1) := by decide +kernel
theorem dX2_put_57 : decode cX2_put 57 = .ok (.getfield 19, 3) := by decide +kernel
theorem dX2_put_60 : decode cX2_put 60 = .ok (.iload 4, 2) := by decide +kernel
theorem dX2_put_62 : decode cX2_put 62 = .ok (.iload_n 1, 1) := by decide +kernel
theorem dX2_put_63 : decode cX2_put 63 = .ok (.iastore, 1) := by decide +kernel
theorem dX2_put_64 : decode cX2_put 64 = .ok (.aload_n 0, 1) := by decide +kernel
theorem dX2_put_65 : decode cX2_put 65 = .ok (.getfield 23, 3) := by decide +kernel
theorem dX2_put_68 : decode cX2_put 68 = .ok (.iload 4, 2) := by decide +kernel
theorem dX2_put_70 : decode cX2_put 70 = .ok (.iload_n 2, 1) := by decide +kernel
theorem dX2_put_71 : decode cX2_put 71 = .ok (.iastore, 1) := by decide +kernel
theorem dX2_put_72 : decode cX2_put 72 = .ok (.aload_n 0, 1) := by decide +kernel
theorem dX2_put_73 : decode cX2_put 73 = .ok (.getfield 26, 3) := by decide +kernel
theorem dX2_put_76 : decode cX2_put 76 = .ok (.iload 4, 2) := by decide +kernel
theorem dX2_put_78 : decode cX2_put 78 = .ok (.iload_n 3, 1) := by decide +kernel
theorem dX2_put_79 : decode cX2_put 79 = .ok (.iastore, 1) := by decide +kernel
theorem dX2_put_80 : decode cX2_put 80 = .ok (.aload_n 0, 1) := by decide +kernel
theorem dX2_put_81 : decode cX2_put 81 = .ok (.dup, 1) := by decide +kernel
theorem dX2_put_82 : decode cX2_put 82 = .ok (.getfield 13, 3) := by decide +kernel
theorem dX2_put_85 : decode cX2_put 85 = .ok (.iconst 1, 1) := by decide +kernel
theorem dX2_put_86 : decode cX2_put 86 = .ok (.iadd, 1) := by decide +kernel
theorem dX2_put_87 : decode cX2_put 87 = .ok (.putfield 13, 3) := by decide +kernel
theorem dX2_put_90 : decode cX2_put 90 = .ok (.return_, 1) := by decide +kernel
theorem dX2_drop_0 : decode cX2_drop 0 = .ok (.aload_n 0, 1) := by decide +kernel
theorem dX2_drop_1 : decode cX2_drop 1 = .ok (.getfield 13, 3) := by decide +kernel
theorem dX2_drop_4 : decode cX2_drop 4 = .ok (.ifCond .le 40, 3) := by decide +kernel
theorem dX2_drop_7 : decode cX2_drop 7 = .ok (.aload_n 0, 1) := by decide +kernel
theorem dX2_drop_8 : decode cX2_drop 8 = .ok (.aload_n 0, 1) := by decide +kernel
theorem dX2_drop_9 : decode cX2_drop 9 = .ok (.getfield 7, 3) := by decide +kernel
theorem dX2_drop_12 : decode cX2_drop 12 = .ok (.iconst 1, 1) := by decide +kernel
theorem dX2_drop_13 : decode cX2_drop 13 = .ok (.iadd, 1) := by decide +kernel
theorem dX2_drop_14 : decode cX2_drop 14 = .ok (.aload_n 0, 1) := by decide +kernel
theorem dX2_drop_15 : decode cX2_drop 15 = .ok (.getfield 16, 3) := by decide +kernel
theorem dX2_drop_18 : decode cX2_drop 18 = .ok (.if_icmp .ge 12, 3) := by decide +kernel
theorem dX2_drop_21 : decode cX2_drop 21 = .ok (.aload_n 0, 1) := by decide +kernel
theorem dX2_drop_22 : decode cX2_drop 22 = .ok (.getfield 7, 3) := by decide +kernel
theorem dX2_drop_25 : decode cX2_drop 25 = .ok (.iconst 1, 1) := by decide +kernel
theorem dX2_drop_26 : decode cX2_drop 26 = .ok (.iadd, 1) := by decide +kernel
theorem dX2_drop_27 : decode cX2_drop 27 = .ok (.goto 4, 3) := by decide +kernel
theorem dX2_drop_30 : decode cX2_drop 30 = .ok (.iconst 0, 1) := by decide +kernel
theorem dX2_drop_31 : decode cX2_drop 31 = .ok (.putfield 7, 3) := by decide +kernel
theorem dX2_drop_34 : decode cX2_drop 34 = .ok (.aload_n 0, 1) := by decide +kernel
theorem dX2_drop_35 : decode cX2_drop 35 = .ok (.dup, 1) := by decide +kernel
theorem dX2_drop_36 : decode cX2_drop 36 = .ok (.getfield 13, 3) := by decide +kernel
theorem dX2_drop_39 : decode cX2_drop 39 = .ok (.iconst 1, 1) := by decide +kernel
theorem dX2_drop_40 : decode cX2_drop 40 = .ok (.isub, 1) := by decide +kernel
theorem dX2_drop_41 : decode cX2_drop 41 = .ok (.putfield 13, 3) := by decide +kernel
theorem dX2_drop_44 : decode cX2_drop 44 = .ok (.return_, 1) := by decide +kernel
theorem dX3_init_0 : decode cX3_init 0 = .ok (.aload_n 0, 1) := by decide +kernel
theorem dX3_init_1 : decode cX3_init 1 = .ok (.invokespecial 3, 3) := by decide +kernel
theorem dX3_init_4 : decode cX3_init 4 = .ok (.aload_n 0, 1) := by decide +kernel
theorem dX3_init_5 : decode cX3_init 5 = .ok (.bipush 40, 2) := by decide +kernel
theorem dX3_init_7 : decode cX3_init 7 = .ok (.newarray .int, 2) := by decide +kernel
theorem dX3_init_9 : decode cX3_init 9 = .ok (.putfield 9, 3) := by decide +kernel
theorem dX3_init_12 : decode cX3_init 12 = .ok (.aload_n 0, 1) := by decide +kernel
theorem dX3_init_13 : decode cX3_init 13 = .ok (.bipush 40, 2) := by decide +kernel
theorem dX3_init_15 : decode cX3_init 15 = .ok (.newarray .int, 2) := by decide +kernel
theorem dX3_init_17 : decode cX3_init 17 = .ok (.putfield 15, 3) := by decide +kernel
theorem dX3_init_20 : decode cX3_init 20 = .ok (.aload_n 0, 1) := by decide +kernel
theorem dX3_init_21 : decode cX3_init 21 = .ok (.bipush 40, 2) := by decide +kernel
theorem dX3_init_23 : decode cX3_init 23 = .ok (.newarray .boolean, 2) := by decide +kernel
theorem dX3_init_25 : decode cX3_init 25 = .ok (.putfield 18, 3) := by decide +kernel
theorem dX3_init_28 : decode cX3_init 28 = .ok (.aload_n 0, 1) := by decide +kernel
theorem dX3_init_29 : decode cX3_init 29 = .ok (.bipush 40, 2) := by decide +kernel
theorem dX3_init_31 : decode cX3_init 31 = .ok (.newarray .boolean, 2) := by decide +kernel
theorem dX3_init_33 : decode cX3_init 33 = .ok (.putfield 22, 3) := by decide +kernel
theorem dX3_init_36 : decode cX3_init 36 = .ok (.aload_n 0, 1) := by decide +kernel
theorem dX3_init_37 : decode cX3_init 37 = .ok (.bipush 40, 2) := by decide +kernel
theorem dX3_init_39 : decode cX3_init 39 = .ok (.newarray .boolean, 2) := by decide +kernel
theorem dX3_init_41 : decode cX3_init 41 = .ok (.putfield 25, 3) := by decide +kernel
theorem dX3_init_44 : decode cX3_init 44 = .ok (.aload_n 0, 1) := by decide +kernel
theorem dX3_init_45 : decode cX3_init 45 = .ok (.iconst 0, 1) := by decide +kernel
theorem dX3_init_46 : decode cX3_init 46 = .ok (.putfield 28, 3) := by decide +kernel
theorem dX3_init_49 : decode cX3_init 49 = .ok (.aload_n 0, 1) := by decide +kernel
theorem dX3_init_50 : decode cX3_init 50 = .ok (.bipush 40, 2) := by decide +kernel
theorem dX3_init_52 : decode cX3_init 52 = .ok (.newarray .int, 2) := by decide +kernel
theorem dX3_init_54 : decode cX3_init 54 = .ok (.putfield 32, 3) := by decide +kernel
theorem dX3_init_57 : decode cX3_init 57 = .ok (.aload_n 0, 1) := by decide +kernel
theorem dX3_init_58 : decode cX3_init 58 = .ok (.iconst 0, 1) := by decide +kernel
theorem dX3_init_59 : decode cX3_init 59 = .ok (.putfield 35, 3) := by decide +kernel
theorem dX3_init_62 : decode cX3_init 62 = .ok (.aload_n 0, 1) := by decide +kernel
theorem dX3_init_63 : decode cX3_init 63 = .ok (.bipush 80, 2) := by decide +kernel
theorem dX3_init_65 : decode cX3_init 65 = .ok (.newarray .int, 2) := by decide +kernel
theorem dX3_init_67 : decode cX3_init 67 = .ok (.putfield 38, 3) := by decide +kernel
theorem dX3_init_70 : decode cX3_init 70 = .ok (.aload_n 0, 1) := by decide +kernel
theorem dX3_init_71 : decode cX3_init 71 = .ok (.bipush 80, 2) := by decide +kernel
theorem dX3_init_73 : decode cX3_init 73 = .ok (.newarray .int, 2) := by decide +kernel
theorem dX3_init_75 : decode cX3_init 75 = .ok (.putfield 41, 3) := by decide +kernel
theorem dX3_init_78 : decode cX3_init 78 = .ok (.aload_n 0, 1) := by decide +kernel
theorem dX3_init_79 : decode cX3_init 79 = .ok (.bipush 80, 2) := by decide +kernel
theorem dX3_init_81 : decode cX3_init 81 = .ok (.newarray .int, 2) := by decide +kernel
theorem dX3_init_83 : decode cX3_init 83 = .ok (.putfield 44, 3) := by decide +kernel
theorem dX3_init_86 : decode cX3_init 86 = .ok (.aload_n 0, 1) := by decide +kernel
theorem dX3_init_87 : decode cX3_init 87 = .ok (.bipush 80, 2) := by decide +kernel
theorem dX3_init_89 : decode cX3_init 89 = .ok (.newarray .int, 2) := by decide +kernel
theorem dX3_init_91 : decode cX3_init 91 = .ok (.putfield 47, 3) := by decide +kernel
theorem dX3_init_94 : decode cX3_init 94 = .ok (.aload_n 0, 1) := by decide +kernel
theorem dX3_init_95 : decode cX3_init 95 = .ok (.iconst 0, 1) := by decide +kernel
theorem dX3_init_96 : decode cX3_init 96 = .ok (.putfield 50, 3) := by decide +kernel
theorem dX3_init_99 : decode cX3_init 99 = .ok (.aload_n 0, 1) := by decide +kernel
theorem dX3_init_100 : decode cX3_init 100 = .ok (.aload_n 1, 1) := by decide +kernel
theorem dX3_init_101 : decode cX3_init 101 = .ok (.putfield 53, 3) := by decide +kernel
theorem dX3_init_104 : decode cX3_init 104 = .ok (.aload_n 0, 1) := by decide +kernel
theorem dX3_init_105 : decode cX3_init 105 = .ok (.aload_n 2, 1) := by decide +kernel
theorem dX3_init_106 : decode cX3_init 106 = .ok (.putfield 57, 3) := by decide +kernel
theorem dX3_init_109 : decode cX3_init 109 = .ok (.return_, 1) := by decide +kernel
theorem dX3_size_0 : decode cX3_size 0 = .ok (.aload_n 0, 1) := by decide +kernel
theorem dX3_size_1 : decode cX3_size 1 = .ok (.getfield 28, 3) := by decide +kernel
theorem dX3_size_4 : decode cX3_size 4 = .ok (.ireturn, 1) := by decide +kernel
theorem dX3_has_0 : decode cX3_has 0 = .ok (.iload_n 1, 1) := by decide +kernel
theorem dX3_has_1 : decode cX3_has 1 = .ok (.ifCond .lt 15, 3) := by decide +kernel
theorem dX3_has_4 : decode cX3_has 4 = .ok (.iload_n 1, 1) := by decide +kernel
theorem dX3_has_5 : decode cX3_has 5 = .ok (.aload_n 0, 1) := by decide +kernel
theorem dX3_has_6 : decode cX3_has 6 = .ok (.getfield 28, 3) := by decide +kernel
theorem dX3_has_9 : decode cX3_has 9 = .ok (.if_icmp .ge 7, 3) := by decide +kernel
theorem dX3_has_12 : decode cX3_has 12 = .ok (.iconst 1, 1) := by decide +kernel
theorem dX3_has_13 : decode cX3_has 13 = .ok (.goto 4, 3) := by decide +kernel
theorem dX3_has_16 : decode cX3_has 16 = .ok (.iconst 0, 1) := by decide +kernel
theorem dX3_has_17 : decode cX3_has 17 = .ok (.ireturn, 1) := by decide +kernel
theorem dX3_isFull_0 : decode cX3_isFull 0 = .ok (.aload_n 0, 1) := by decide +kernel
theorem dX3_isFull_1 : decode cX3_isFull 1 = .ok (.getfield 28, 3) := by decide +kernel
theorem dX3_isFull_4 : decode cX3_isFull 4 = .ok (.bipush 40, 2) := by decide +kernel
theorem dX3_isFull_6 : decode cX3_isFull 6 = .ok (.if_icmp .lt 7, 3) := by decide +kernel
theorem dX3_isFull_9 : decode cX3_isFull 9 = .ok (.iconst 1, 1) := by decide +kernel
theorem dX3_isFull_10 : decode cX3_isFull 10 = .ok (.goto 4, 3) := by decide +kernel
theorem dX3_isFull_13 : decode cX3_isFull 13 = .ok (.iconst 0, 1) := by decide +kernel
theorem dX3_isFull_14 : decode cX3_isFull 14 = .ok (.ireturn, 1) := by decide +kernel
theorem dX3_stateOf_0 : decode cX3_stateOf 0 = .ok (.aload_n 0, 1) := by decide +kernel
theorem dX3_stateOf_1 : decode cX3_stateOf 1 = .ok (.getfield 9, 3) := by decide +kernel
theorem dX3_stateOf_4 : decode cX3_stateOf 4 = .ok (.iload_n 1, 1) := by decide +kernel
theorem dX3_stateOf_5 : decode cX3_stateOf 5 = .ok (.iaload, 1) := by decide +kernel
theorem dX3_stateOf_6 : decode cX3_stateOf 6 = .ok (.ireturn, 1) := by decide +kernel
theorem dX3_numberOf_0 : decode cX3_numberOf 0 = .ok (.aload_n 0, 1) := by decide +kernel
theorem dX3_numberOf_1 : decode cX3_numberOf 1 = .ok (.getfield 15, 3) := by decide +kernel
theorem dX3_numberOf_4 : decode cX3_numberOf 4 = .ok (.iload_n 1, 1) := by decide +kernel
theorem dX3_numberOf_5 : decode cX3_numberOf 5 = .ok (.iaload, 1) := by decide +kernel
theorem dX3_numberOf_6 : decode cX3_numberOf 6 = .ok (.ireturn, 1) := by decide +kernel
theorem dX3_stateWithFlags_0 : decode cX3_stateWithFlags 0 = .ok (.aload_n 0, 1) := by decide +kernel
theorem dX3_stateWithFlags_1 : decode cX3_stateWithFlags 1 = .ok (.getfield 9, 3) := by decide +kernel
theorem dX3_stateWithFlags_4 : decode cX3_stateWithFlags 4 = .ok (.iload_n 1, 1) := by decide +kernel
theorem dX3_stateWithFlags_5 : decode cX3_stateWithFlags 5 = .ok (.iaload, 1) := by decide +kernel
theorem dX3_stateWithFlags_6 : decode cX3_stateWithFlags 6 = .ok (.aload_n 0, 1) := by decide +kernel
theorem dX3_stateWithFlags_7 : decode cX3_stateWithFlags 7 = .ok (.getfield 18, 3) := by decide +kernel
theorem dX3_stateWithFlags_10 : decode cX3_stateWithFlags 10 = .ok (.iload_n 1, 1) := by decide +kernel
theorem dX3_stateWithFlags_11 : decode cX3_stateWithFlags 11 = .ok (.baload, 1) := by decide +kernel
theorem dX3_stateWithFlags_12 : decode cX3_stateWithFlags 12 = .ok (.ifCond .eq 7, 3) := by decide +kernel
theorem dX3_stateWithFlags_15 : decode cX3_stateWithFlags 15 = .ok (.iconst 4, 1) := by decide +kernel
theorem dX3_stateWithFlags_16 : decode cX3_stateWithFlags 16 = .ok (.goto 4, 3) := by decide +kernel
theorem dX3_stateWithFlags_19 : decode cX3_stateWithFlags 19 = .ok (.iconst 0, 1) := by decide +kernel
theorem dX3_stateWithFlags_20 : decode cX3_stateWithFlags 20 = .ok (.iadd, 1) := by decide +kernel
theorem dX3_stateWithFlags_21 : decode cX3_stateWithFlags 21 = .ok (.aload_n 0, 1) := by decide +kernel
theorem dX3_stateWithFlags_22 : decode cX3_stateWithFlags 22 = .ok (.getfield 22, 3) := by decide +kernel
theorem dX3_stateWithFlags_25 : decode cX3_stateWithFlags 25 = .ok (.iload_n 1, 1) := by decide +kernel
theorem dX3_stateWithFlags_26 : decode cX3_stateWithFlags 26 = .ok (.baload, 1) := by decide +kernel
theorem dX3_stateWithFlags_27 : decode cX3_stateWithFlags 27 = .ok (.ifCond .eq 8, 3) := by decide +kernel
theorem dX3_stateWithFlags_30 : decode cX3_stateWithFlags 30 = .ok (.bipush 8, 2) := by decide +kernel
theorem dX3_stateWithFlags_32 : decode cX3_stateWithFlags 32 = .ok (.goto 4, 3) := by decide +kernel
theorem dX3_stateWithFlags_35 : decode cX3_stateWithFlags 35 = .ok (.iconst 0, 1) := by decide +kernel
theorem dX3_stateWithFlags_36 : decode cX3_stateWithFlags 36 = .ok (.iadd, 1) := by decide +kernel
theorem dX3_stateWithFlags_37 : decode cX3_stateWithFlags 37 = .ok (.ireturn, 1) := by decide +kernel
theorem dX3_sourceOf_0 : decode cX3_sourceOf 0 = .ok (.aload_n 0, 1) := by decide +kernel
theorem dX3_sourceOf_1 : decode cX3_sourceOf 1 = .ok (.getfield 38, 3) := by decide +kernel
theorem dX3_sourceOf_4 : decode cX3_sourceOf 4 = .ok (.iload_n 1, 1) := by decide +kernel
theorem dX3_sourceOf_5 : decode cX3_sourceOf 5 = .ok (.iaload, 1) := by decide +kernel
theorem dX3_sourceOf_6 : decode cX3_sourceOf 6 = .ok (.ireturn, 1) := by decide +kernel
theorem dX3_targetOf_0 : decode cX3_targetOf 0 = .ok (.aload_n 0, 1) := by decide +kernel
theorem dX3_targetOf_1 : decode cX3_targetOf 1 = .ok (.getfield 41, 3) := by decide +kernel
theorem dX3_targetOf_4 : decode cX3_targetOf 4 = .ok (.iload_n 1, 1) := by decide +kernel
theorem dX3_targetOf_5 : decode cX3_targetOf 5 = .ok (.iaload, 1) := by decide +kernel
theorem dX3_targetOf_6 : decode cX3_targetOf 6 = .ok (.ireturn, 1) := by decide +kernel
theorem dX3_functionOf_0 : decode cX3_functionOf 0 = .ok (.aload_n 0, 1) := by decide +kernel
theorem dX3_functionOf_1 : decode cX3_functionOf 1 = .ok (.getfield 9, 3) := by decide +kernel
theorem dX3_functionOf_4 : decode cX3_functionOf 4 = .ok (.aload_n 0, 1) := by decide +kernel
theorem dX3_functionOf_5 : decode cX3_functionOf 5 = .ok (.getfield 38, 3) := by decide +kernel
theorem dX3_functionOf_8 : decode cX3_functionOf 8 = .ok (.iload_n 1, 1) := by decide +kernel
theorem dX3_functionOf_9 : decode cX3_functionOf 9 = .ok (.iaload, 1) := by decide +kernel
theorem dX3_functionOf_10 : decode cX3_functionOf 10 = .ok (.iaload, 1) := by decide +kernel
theorem dX3_functionOf_11 : decode cX3_functionOf 11 = .ok (.iconst 1, 1) := by decide +kernel
theorem dX3_functionOf_12 : decode cX3_functionOf 12 = .ok (.if_icmp .ne 7, 3) := by decide +kernel
theorem dX3_functionOf_15 : decode cX3_functionOf 15 = .ok (.iconst 1, 1) := by decide +kernel
theorem dX3_functionOf_16 : decode cX3_functionOf 16 = .ok (.goto 4, 3) := by decide +kernel
theorem dX3_functionOf_19 : decode cX3_functionOf 19 = .ok (.iconst 0, 1) := by decide +kernel
theorem dX3_functionOf_20 : decode cX3_functionOf 20 = .ok (.istore_n 2, 1) := by decide +kernel
theorem dX3_functionOf_21 : decode cX3_functionOf 21 = .ok (.iload_n 2, 1) := by decide +kernel
theorem dX3_functionOf_22 : decode cX3_functionOf 22 = .ok (.ifCond .eq 12, 3) := by decide +kernel
theorem dX3_functionOf_25 : decode cX3_functionOf 25 = .ok (.aload_n 0, 1) := by decide +kernel
theorem dX3_functionOf_26 : decode cX3_functionOf 26 = .ok (.getfield 44, 3) := by decide +kernel
theorem dX3_functionOf_29 : decode cX3_functionOf 29 = .ok (.iload_n 1, 1) := by decide +kernel
theorem dX3_functionOf_30 : decode cX3_functionOf 30 = .ok (.iaload, 1) := by decide +kernel
theorem dX3_functionOf_31 : decode cX3_functionOf 31 = .ok (.goto 9, 3) := by decide +kernel
theorem dX3_functionOf_34 : decode cX3_functionOf 34 = .ok (.aload_n 0, 1) := by decide +kernel
theorem dX3_functionOf_35 : decode cX3_functionOf 35 = .ok (.getfield 47, 3) := by decide +kernel
theorem dX3_functionOf_38 : decode cX3_functionOf 38 = .ok (.iload_n 1, 1) := by decide +kernel
theorem dX3_functionOf_39 : decode cX3_functionOf 39 = .ok (.iaload, 1) := by decide +kernel
theorem dX3_functionOf_40 : decode cX3_functionOf 40 = .ok (.ireturn, 1) := by decide +kernel
theorem dX3_make_0 : decode cX3_make 0 = .ok (.aload_n 0, 1) := by decide +kernel
theorem dX3_make_1 : decode cX3_make 1 = .ok (.getfield 28, 3) := by decide +kernel
theorem dX3_make_4 : decode cX3_make 4 = .ok (.bipush 40, 2) := by decide +kernel
theorem dX3_make_6 : decode cX3_make 6 = .ok (.if_icmp .lt 5, 3) := by decide +kernel
theorem dX3_make_9 : decode cX3_make 9 = .ok (.iconst (-1), 1) := by decide +kernel
theorem dX3_make_10 : decode cX3_make 10 = .ok (.ireturn, 1) := by decide +kernel
theorem dX3_make_11 : decode cX3_make 11 = .ok (.aload_n 0, 1) := by decide +kernel
theorem dX3_make_12 : decode cX3_make 12 = .ok (.dup, 1) := by decide +kernel
theorem dX3_make_13 : decode cX3_make 13 = .ok (.getfield 28, 3) := by decide +kernel
theorem dX3_make_16 : decode cX3_make 16 = .ok (.iconst 1, 1) := by decide +kernel
theorem dX3_make_17 : decode cX3_make 17 = .ok (.iadd, 1) := by decide +kernel
theorem dX3_make_18 : decode cX3_make 18 = .ok (.putfield 28, 3) := by decide +kernel
theorem dX3_make_21 : decode cX3_make 21 = .ok (.aload_n 0, 1) := by decide +kernel
theorem dX3_make_22 : decode cX3_make 22 = .ok (.getfield 28, 3) := by decide +kernel
theorem dX3_make_25 : decode cX3_make 25 = .ok (.iconst 1, 1) := by decide +kernel
theorem dX3_make_26 : decode cX3_make 26 = .ok (.isub, 1) := by decide +kernel
theorem dX3_make_27 : decode cX3_make 27 = .ok (.ireturn, 1) := by decide +kernel
theorem dX3_resolveOrReject_0 : decode cX3_resolveOrReject 0 = .ok (.aload_n 0, 1) := by decide +kernel
theorem dX3_resolveOrReject_1 : decode cX3_resolveOrReject 1 = .ok (.iload_n 1, 1) := by decide +kernel
theorem dX3_resolveOrReject_2 : decode cX3_resolveOrReject 2 = .ok (.invokevirtual 61, 3) := by decide +kernel
theorem dX3_resolveOrReject_5 : decode cX3_resolveOrReject 5 = .ok (.ifCond .eq 26, 3) := by decide +kernel
theorem dX3_resolveOrReject_8 : decode cX3_resolveOrReject 8 = .ok (.aload_n 0, 1) := by decide +kernel
theorem dX3_resolveOrReject_9 : decode cX3_resolveOrReject 9 = .ok (.getfield 18, 3) := by decide +kernel
theorem dX3_resolveOrReject_12 : decode cX3_resolveOrReject 12 = .ok (.iload_n 1, 1) := by decide +kernel
theorem dX3_resolveOrReject_13 : decode cX3_resolveOrReject 13 = .ok (.baload, 1) := by decide +kernel
theorem dX3_resolveOrReject_14 : decode cX3_resolveOrReject 14 = .ok (.ifCond .ne 17, 3) := by decide +kernel
theorem dX3_resolveOrReject_17 : decode cX3_resolveOrReject 17 = .ok (.aload_n 0, 1) := by decide +kernel
theorem dX3_resolveOrReject_18 : decode cX3_resolveOrReject 18 = .ok (.getfield 18, 3) := by decide +kernel
theorem dX3_resolveOrReject_21 : decode cX3_resolveOrReject 21 = .ok (.iload_n 1, 1) := by decide +kernel
theorem dX3_resolveOrReject_22 : decode cX3_resolveOrReject 22 = .ok (.iconst 1, 1) := by decide +kernel
theorem dX3_resolveOrReject_23 : decode cX3_resolveOrReject 23 = .ok (.bastore, 1) := by decide +kernel
theorem dX3_resolveOrReject_24 : decode cX3_resolveOrReject 24 = .ok (.aload_n 0, 1) := by decide +kernel
theorem dX3_resolveOrReject_25 : decode cX3_resolveOrReject 25 = .ok (.iload_n 1, 1) := by decide +kernel
theorem dX3_resolveOrReject_26 : decode cX3_resolveOrReject 26 = .ok (.iload_n 2, 1) := by decide +kernel
theorem dX3_resolveOrReject_27 : decode cX3_resolveOrReject 27 = .ok (.iload_n 3, 1) := by decide +kernel
theorem dX3_resolveOrReject_28 : decode cX3_resolveOrReject 28 = .ok (.invokevirtual 65, 3) := by decide +kernel
theorem dX3_resolveOrReject_31 : decode cX3_resolveOrReject 31 = .ok (.return_, 1) := by decide +kernel
theorem dX3_follow_0 : decode cX3_follow 0 = .ok (.aload_n 0, 1) := by decide +kernel
theorem dX3_follow_1 : decode cX3_follow 1 = .ok (.iload_n 1, 1) := by decide +kernel
theorem dX3_follow_2 : decode cX3_follow 2 = .ok (.invokevirtual 61, 3) := by decide +kernel
theorem dX3_follow_5 : decode cX3_follow 5 = .ok (.ifCond .eq 20, 3) := by decide +kernel
theorem dX3_follow_8 : decode cX3_follow 8 = .ok (.aload_n 0, 1) := by decide +kernel
theorem dX3_follow_9 : decode cX3_follow 9 = .ok (.iload_n 2, 1) := by decide +kernel
theorem dX3_follow_10 : decode cX3_follow 10 = .ok (.invokevirtual 61, 3) := by decide +kernel
theorem dX3_follow_13 : decode cX3_follow 13 = .ok (.ifCond .eq 12, 3) := by decide +kernel
theorem dX3_follow_16 : decode cX3_follow 16 = .ok (.aload_n 0, 1) := by decide +kernel
theorem dX3_follow_17 : decode cX3_follow 17 = .ok (.getfield 18, 3) := by decide +kernel
theorem dX3_follow_20 : decode cX3_follow 20 = .ok (.iload_n 1, 1) := by decide +kernel
theorem dX3_follow_21 : decode cX3_follow 21 = .ok (.baload, 1) := by decide +kernel
theorem dX3_follow_22 : decode cX3_follow 22 = .ok (.ifCond .eq 4, 3) := by decide +kernel
theorem dX3_follow_25 : decode cX3_follow 25 = .ok (.return_, 1) := by decide +kernel
theorem dX3_follow_26 : decode cX3_follow 26 = .ok (.aload_n 0, 1) := by decide +kernel
theorem dX3_follow_27 : decode cX3_follow 27 = .ok (.getfield 18, 3) := by decide +kernel
theorem dX3_follow_30 : decode cX3_follow 30 = .ok (.iload_n 1, 1) := by decide +kernel
theorem dX3_follow_31 : decode cX3_follow 31 = .ok (.iconst 1, 1) := by decide +kernel
theorem dX3_follow_32 : decode cX3_follow 32 = .ok (.bastore, 1) := by decide +kernel
theorem dX3_follow_33 : decode cX3_follow 33 = .ok (.iload_n 1, 1) := by decide +kernel
theorem dX3_follow_34 : decode cX3_follow 34 = .ok (.iload_n 2, 1) := by decide +kernel
theorem dX3_follow_35 : decode cX3_follow 35 = .ok (.if_icmp .ne 14, 3) := by decide +kernel
theorem dX3_follow_38 : decode cX3_follow 38 = .ok (.aload_n 0, 1) := by decide +kernel
theorem dX3_follow_39 : decode cX3_follow 39 = .ok (.iload_n 1, 1) := by decide +kernel
theorem dX3_follow_40 : decode cX3_follow 40 = .ok (.iconst 2, 1) := by decide +kernel
theorem dX3_follow_41 : decode cX3_follow 41 = .ok (.bipush (-3), 2) := by decide +kernel
theorem dX3_follow_43 : decode cX3_follow 43 = .ok (.invokevirtual 65, 3) := by decide +kernel
theorem dX3_follow_46 : decode cX3_follow 46 = .ok (.goto 13, 3) := by decide +kernel
theorem dX3_follow_49 : decode cX3_follow 49 = .ok (.aload_n 0, 1) := by decide +kernel
theorem dX3_follow_50 : decode cX3_follow 50 = .ok (.getfield 53, 3) := by decide +kernel
theorem dX3_follow_53 : decode cX3_follow 53 = .ok (.iconst 3, 1) := by decide +kernel
theorem dX3_follow_54 : decode cX3_follow 54 = .ok (.iload_n 1, 1) := by decide +kernel
theorem dX3_follow_55 : decode cX3_follow 55 = .ok (.iload_n 2, 1) := by decide +kernel
theorem dX3_follow_56 : decode cX3_follow 56 = .ok (.invokevirtual 69, 3) := by decide +kernel
theorem dX3_follow_59 : decode cX3_follow 59 = .ok (.return_, 1) := by decide +kernel
theorem dX3_settle_0 : decode cX3_settle 0 = .ok (.aload_n 0, 1) := by decide +kernel
theorem dX3_settle_1 : decode cX3_settle 1 = .ok (.getfield 9, 3) := by decide +kernel
theorem dX3_settle_4 : decode cX3_settle 4 = .ok (.iload_n 1, 1) := by decide +kernel
theorem dX3_settle_5 : decode cX3_settle 5 = .ok (.iload_n 2, 1) := by decide +kernel
theorem dX3_settle_6 : decode cX3_settle 6 = .ok (.iastore, 1) := by decide +kernel
theorem dX3_settle_7 : decode cX3_settle 7 = .ok (.aload_n 0, 1) := by decide +kernel
theorem dX3_settle_8 : decode cX3_settle 8 = .ok (.getfield 15, 3) := by decide +kernel
theorem dX3_settle_11 : decode cX3_settle 11 = .ok (.iload_n 1, 1) := by decide +kernel
theorem dX3_settle_12 : decode cX3_settle 12 = .ok (.iload_n 3, 1) := by decide +kernel
theorem dX3_settle_13 : decode cX3_settle 13 = .ok (.iastore, 1) := by decide +kernel
theorem dX3_settle_14 : decode cX3_settle 14 = .ok (.iconst 0, 1) := by decide +kernel
theorem dX3_settle_15 : decode cX3_settle 15 = .ok (.istore 4, 2) := by decide +kernel
theorem dX3_settle_17 : decode cX3_settle 17 = .ok (.iload 4, 2) := by decide +kernel
theorem dX3_settle_19 : decode cX3_settle 19 = .ok (.aload_n 0, 1) := by decide +kernel
theorem dX3_settle_20 : decode cX3_settle 20 = .ok (.getfield 50, 3) := by decide +kernel
theorem dX3_settle_23 : decode cX3_settle 23 = .ok (.if_icmp .ge 31, 3) := by decide +kernel
theorem dX3_settle_26 : decode cX3_settle 26 = .ok (.aload_n 0, 1) := by decide +kernel
theorem dX3_settle_27 : decode cX3_settle 27 = .ok (.getfield 38, 3) := by decide +kernel
theorem dX3_settle_30 : decode cX3_settle 30 = .ok (.iload 4, 2) := by decide +kernel
theorem dX3_settle_32 : decode cX3_settle 32 = .ok (.iaload, 1) := by decide +kernel
theorem dX3_settle_33 : decode cX3_settle 33 = .ok (.iload_n 1, 1) := by decide +kernel
theorem dX3_settle_34 : decode cX3_settle 34 = .ok (.if_icmp .ne 14, 3) := by decide +kernel
theorem dX3_settle_37 : decode cX3_settle 37 = .ok (.aload_n 0, 1) := by decide +kernel
theorem dX3_settle_38 : decode cX3_settle 38 = .ok (.getfield 53, 3) := by decide +kernel
theorem dX3_settle_41 : decode cX3_settle 41 = .ok (.iconst 2, 1) := by decide +kernel
theorem dX3_settle_42 : decode cX3_settle 42 = .ok (.iload 4, 2) := by decide +kernel
theorem dX3_settle_44 : decode cX3_settle 44 = .ok (.iconst 0, 1) := by decide +kernel
theorem dX3_settle_45 : decode cX3_settle 45 = .ok (.invokevirtual 69, 3) := by decide +kernel
theorem dX3_settle_48 : decode cX3_settle 48 = .ok (.iinc 4 1, 3) := by decide +kernel
theorem dX3_settle_51 : decode cX3_settle 51 = .ok (.goto (-34), 3) := by decide +kernel
theorem dX3_settle_54 : decode cX3_settle 54 = .ok (.iload_n 2, 1) := by decide +kernel
theorem dX3_settle_55 : decode cX3_settle 55 = .ok (.iconst 2, 1) := by decide +kernel
theorem dX3_settle_56 : decode cX3_settle 56 = .ok (.if_icmp .ne 41, 3) := by decide +kernel
theorem dX3_settle_59 : decode cX3_settle 59 = .ok (.aload_n 0, 1) := by decide +kernel
theorem dX3_settle_60 : decode cX3_settle 60 = .ok (.getfield 22, 3) := by decide +kernel
theorem dX3_settle_63 : decode cX3_settle 63 = .ok (.iload_n 1, 1) := by decide +kernel
theorem dX3_settle_64 : decode cX3_settle 64 = .ok (.baload, 1) := by decide +kernel
theorem dX3_settle_65 : decode cX3_settle 65 = .ok (.ifCond .ne 32, 3) := by decide +kernel
theorem dX3_settle_68 : decode cX3_settle 68 = .ok (.aload_n 0, 1) := by decide +kernel
theorem dX3_settle_69 : decode cX3_settle 69 = .ok (.getfield 35, 3) := by decide +kernel
theorem dX3_settle_72 : decode cX3_settle 72 = .ok (.bipush 40, 2) := by decide +kernel
theorem dX3_settle_74 : decode cX3_settle 74 = .ok (.if_icmp .ge 23, 3) := by decide +kernel
theorem dX3_settle_77 : decode cX3_settle 77 = .ok (.aload_n 0, 1) := by decide +kernel
theorem dX3_settle_78 : decode cX3_settle 78 = .ok (.getfield 32, 3) := by decide +kernel
theorem dX3_settle_81 : decode cX3_settle 81 = .ok (.aload_n 0, 1) := by decide +kernel
theorem dX3_settle_82 : decode cX3_settle 82 = .ok (.getfield 35, 3) := by decide +kernel
theorem dX3_settle_85 : decode cX3_settle 85 = .ok (.iload_n 1, 1) := by decide +kernel
theorem dX3_settle_86 : decode cX3_settle 86 = .ok (.iastore, 1) := by decide +kernel
theorem dX3_settle_87 : decode cX3_settle 87 = .ok (.aload_n 0, 1) := by decide +kernel
theorem dX3_settle_88 : decode cX3_settle 88 = .ok (.dup, 1) := by decide +kernel
theorem dX3_settle_89 : decode cX3_settle 89 = .ok (.getfield 35, 3) := by decide +kernel
theorem dX3_settle_92 : decode cX3_settle 92 = .ok (.iconst 1, 1) := by decide +kernel
theorem dX3_settle_93 : decode cX3_settle 93 = .ok (.iadd, 1) := by decide +kernel
theorem dX3_settle_94 : decode cX3_settle 94 = .ok (.putfield 35, 3) := by decide +kernel
theorem dX3_settle_97 : decode cX3_settle 97 = .ok (.return_, 1) := by decide +kernel
theorem dX3_react_0 : decode cX3_react 0 = .ok (.aload_n 0, 1) := by decide +kernel
theorem dX3_react_1 : decode cX3_react 1 = .ok (.iload_n 1, 1) := by decide +kernel
theorem dX3_react_2 : decode cX3_react 2 = .ok (.invokevirtual 61, 3) := by decide +kernel
theorem dX3_react_5 : decode cX3_react 5 = .ok (.ifCond .eq 12, 3) := by decide +kernel
theorem dX3_react_8 : decode cX3_react 8 = .ok (.aload_n 0, 1) := by decide +kernel
theorem dX3_react_9 : decode cX3_react 9 = .ok (.getfield 50, 3) := by decide +kernel
theorem dX3_react_12 : decode cX3_react 12 = .ok (.bipush 80, 2) := by decide +kernel
theorem dX3_react_14 : decode cX3_react 14 = .ok (.if_icmp .lt 4, 3) := by decide +kernel
theorem dX3_react_17 : decode cX3_react 17 = .ok (.return_, 1) := by decide +kernel
theorem dX3_react_18 : decode cX3_react 18 = .ok (.aload_n 0, 1) := by decide +kernel
theorem dX3_react_19 : decode cX3_react 19 = .ok (.getfield 25, 3) := by decide +kernel
theorem dX3_react_22 : decode cX3_react 22 = .ok (.iload_n 1, 1) := by decide +kernel
theorem dX3_react_23 : decode cX3_react 23 = .ok (.baload, 1) := by decide +kernel
theorem dX3_react_24 : decode cX3_react 24 = .ok (.ifCond .eq 24, 3) := by decide +kernel
theorem dX3_react_27 : decode cX3_react 27 = .ok (.aload_n 0, 1) := by decide +kernel
theorem dX3_react_28 : decode cX3_react 28 = .ok (.getfield 22, 3) := by decide +kernel
theorem dX3_react_31 : decode cX3_react 31 = .ok (.iload_n 1, 1) := by decide +kernel
theorem dX3_react_32 : decode cX3_react 32 = .ok (.baload, 1) := by decide +kernel
theorem dX3_react_33 : decode cX3_react 33 = .ok (.ifCond .ne 15, 3) := by decide +kernel
theorem dX3_react_36 : decode cX3_react 36 = .ok (.aload_n 0, 1) := by decide +kernel
theorem dX3_react_37 : decode cX3_react 37 = .ok (.getfield 57, 3) := by decide +kernel
theorem dX3_react_40 : decode cX3_react 40 = .ok (.sipush 30000, 3) := by decide +kernel
theorem dX3_react_43 : decode cX3_react 43 = .ok (.iload_n 1, 1) := by decide +kernel
theorem dX3_react_44 : decode cX3_react 44 = .ok (.iadd, 1) := by decide +kernel
theorem dX3_react_45 : decode cX3_react 45 = .ok (.invokevirtual 74, 3) := by decide +kernel
theorem dX3_react_48 : decode cX3_react 48 = .ok (.aload_n 0, 1) := by decide +kernel
theorem dX3_react_49 : decode cX3_react 49 = .ok (.getfield 22, 3) := by decide +kernel
theorem dX3_react_52 : decode cX3_react 52 = .ok (.iload_n 1, 1) := by decide +kernel
theorem dX3_react_53 : decode cX3_react 53 = .ok (.iconst 1, 1) := by decide +kernel
theorem dX3_react_54 : decode cX3_react 54 = .ok (.bastore, 1) := by decide +kernel
theorem dX3_react_55 : decode cX3_react 55 = .ok (.aload_n 0, 1) := by decide +kernel
theorem dX3_react_56 : decode cX3_react 56 = .ok (.getfield 38, 3) := by decide +kernel
theorem dX3_react_59 : decode cX3_react 59 = .ok (.aload_n 0, 1) := by decide +kernel
theorem dX3_react_60 : decode cX3_react 60 = .ok (.getfield 50, 3) := by decide +kernel
theorem dX3_react_63 : decode cX3_react 63 = .ok (.iload_n 1, 1) := by decide +kernel
theorem dX3_react_64 : decode cX3_react 64 = .ok (.iastore, 1) := by decide +kernel
theorem dX3_react_65 : decode cX3_react 65 = .ok (.aload_n 0, 1) := by decide +kernel
theorem dX3_react_66 : decode cX3_react 66 = .ok (.getfield 41, 3) := by decide +kernel
theorem dX3_react_69 : decode cX3_react 69 = .ok (.aload_n 0, 1) := by decide +kernel
theorem dX3_react_70 : decode cX3_react 70 = .ok (.getfield 50, 3) := by decide +kernel
theorem dX3_react_73 : decode cX3_react 73 = .ok (.iload 4, 2) := by decide +kernel
theorem dX3_react_75 : decode cX3_react 75 = .ok (.iastore, 1) := by decide +kernel
theorem dX3_react_76 : decode cX3_react 76 = .ok (.aload_n 0, 1) := by decide +kernel
theorem dX3_react_77 : decode cX3_react 77 = .ok (.getfield 44, 3) := by decide +kernel
theorem dX3_react_80 : decode cX3_react 80 = .ok (.aload_n 0, 1) := by decide +kernel
theorem dX3_react_81 : decode cX3_react 81 = .ok (.getfield 50, 3) := by decide +kernel
theorem dX3_react_84 : decode cX3_react 84 = .ok (.iload_n 2, 1) := by decide +kernel
theorem dX3_react_85 : decode cX3_react 85 = .ok (.iastore, 1) := by decide +kernel
theorem dX3_react_86 : decode cX3_react 86 = .ok (.aload_n 0, 1) := by decide +kernel
theorem dX3_react_87 : decode cX3_react 87 = .ok (.getfield 47, 3) := by decide +kernel
theorem dX3_react_90 : decode cX3_react 90 = .ok (.aload_n 0, 1) := by decide +kernel
theorem dX3_react_91 : decode cX3_react 91 = .ok (.getfield 50, 3) := by decide +kernel
theorem dX3_react_94 : decode cX3_react 94 = .ok (.iload_n 3, 1) := by decide +kernel
theorem dX3_react_95 : decode cX3_react 95 = .ok (.iastore, 1) := by decide +kernel
theorem dX3_react_96 : decode cX3_react 96 = .ok (.aload_n 0, 1) := by decide +kernel
theorem dX3_react_97 : decode cX3_react 97 = .ok (.getfield 9, 3) := by decide +kernel
theorem dX3_react_100 : decode cX3_react 100 = .ok (.iload_n 1, 1) := by decide +kernel
theorem dX3_react_101 : decode cX3_react 101 = .ok (.iaload, 1) := by decide +kernel
theorem dX3_react_102 : decode cX3_react 102 = .ok (.ifCond .eq 16, 3) := by decide +kernel
theorem dX3_react_105 : decode cX3_react 105 = .ok (.aload_n 0, 1) := by decide +kernel
theorem dX3_react_106 : decode cX3_react 106 = .ok (.getfield 53, 3) := by decide +kernel
theorem dX3_react_109 : decode cX3_react 109 = .ok (.iconst 2, 1) := by decide +kernel
theorem dX3_react_110 : decode cX3_react 110 = .ok (.aload_n 0, 1) := by decide +kernel
theorem dX3_react_111 : decode cX3_react 111 = .ok (.getfield 50, 3) := by decide +kernel
theorem dX3_react_114 : decode cX3_react 114 = .ok (.iconst 0, 1) := by decide +kernel
theorem dX3_react_115 : decode cX3_react 115 = .ok (.invokevirtual 69, 3) := by decide +kernel
theorem dX3_react_118 : decode cX3_react 118 = .ok (.aload_n 0, 1) := by decide +kernel
theorem dX3_react_119 : decode cX3_react 119 = .ok (.dup, 1) := by decide +kernel
theorem dX3_react_120 : decode cX3_react 120 = .ok (.getfield 50, 3) := by decide +kernel
theorem dX3_react_123 : decode cX3_react 123 = .ok (.iconst 1, 1) := by decide +kernel
theorem dX3_react_124 : decode cX3_react 124 = .ok (.iadd, 1) := by decide +kernel
theorem dX3_react_125 : decode cX3_react 125 = .ok (.putfield 50, 3) := by decide +kernel
theorem dX3_react_128 : decode cX3_react 128 = .ok (.return_, 1) := by decide +kernel
theorem dX3_reportUnhandled_0 : decode cX3_reportUnhandled 0 = .ok (.iconst 0, 1) := by decide +kernel
theorem dX3_reportUnhandled_1 : decode cX3_reportUnhandled 1 = .ok (.istore_n 1, 1) := by decide +kernel
theorem dX3_reportUnhandled_2 : decode cX3_reportUnhandled 2 = .ok (.iload_n 1, 1) := by decide +kernel
theorem dX3_reportUnhandled_3 : decode cX3_reportUnhandled 3 = .ok (.aload_n 0, 1) := by decide +kernel
theorem dX3_reportUnhandled_4 : decode cX3_reportUnhandled 4 = .ok (.getfield 35, 3) := by decide +kernel
theorem dX3_reportUnhandled_7 : decode cX3_reportUnhandled 7 = .ok (.if_icmp .ge 44, 3) := by decide +kernel
theorem dX3_reportUnhandled_10 : decode cX3_reportUnhandled 10 = .ok (.aload_n 0, 1) := by decide +kernel
theorem dX3_reportUnhandled_11 : decode cX3_reportUnhandled 11 = .ok (.getfield 32, 3) := by decide +kernel
theorem dX3_reportUnhandled_14 : decode cX3_reportUnhandled 14 = .ok (.iload_n 1, 1) := by decide +kernel
theorem dX3_reportUnhandled_15 : decode cX3_reportUnhandled 15 = .ok (.iaload, 1) := by decide +kernel
theorem dX3_reportUnhandled_16 : decode cX3_reportUnhandled 16 = .ok (.istore_n 2, 1) := by decide +kernel
theorem dX3_reportUnhandled_17 : decode cX3_reportUnhandled 17 = .ok (.aload_n 0, 1) := by decide +kernel
theorem dX3_reportUnhandled_18 : decode cX3_reportUnhandled 18 = .ok (.getfield 22, 3) := by decide +kernel
theorem dX3_reportUnhandled_21 : decode cX3_reportUnhandled 21 = .ok (.iload_n 2, 1) := by decide +kernel
theorem dX3_reportUnhandled_22 : decode cX3_reportUnhandled 22 = .ok (.baload, 1) := by decide +kernel
theorem dX3_reportUnhandled_23 : decode cX3_reportUnhandled 23 = .ok (.ifCond .ne 22, 3) := by decide +kernel
theorem dX3_reportUnhandled_26 : decode cX3_reportUnhandled 26 = .ok (.aload_n 0, 1) := by decide +kernel
theorem dX3_reportUnhandled_27 : decode cX3_reportUnhandled 27 = .ok (.getfield 25, 3) := by decide +kernel
theorem dX3_reportUnhandled_30 : decode cX3_reportUnhandled 30 = .ok (.iload_n 2, 1) := by decide +kernel
theorem dX3_reportUnhandled_31 : decode cX3_reportUnhandled 31 = .ok (.iconst 1, 1) := by decide +kernel
theorem dX3_reportUnhandled_32 : decode cX3_reportUnhandled 32 = .ok (.bastore, 1) := by decide +kernel
theorem dX3_reportUnhandled_33 : decode cX3_reportUnhandled 33 = .ok (.aload_n 0, 1) := by decide +kernel
theorem dX3_reportUnhandled_34 : decode cX3_reportUnhandled 34 = .ok (.getfield 57, 3) := by decide +kernel
theorem dX3_reportUnhandled_37 : decode cX3_reportUnhandled 37 = .ok (.sipush 20000, 3) := by decide +kernel
theorem dX3_reportUnhandled_40 : decode cX3_reportUnhandled 40 = .ok (.iload_n 2, 1) := by decide +kernel
theorem dX3_reportUnhandled_41 : decode cX3_reportUnhandled 41 = .ok (.iadd, 1) := by decide +kernel
theorem dX3_reportUnhandled_42 : decode cX3_reportUnhandled 42 = .ok (.invokevirtual 74, 3) := by decide +kernel
theorem dX3_reportUnhandled_45 : decode cX3_reportUnhandled 45 = .ok (.iinc 1 1, 3) := by decide +kernel
theorem dX3_reportUnhandled_48 : decode cX3_reportUnhandled 48 = .ok (.goto (-46), 3) := by decide +kernel
theorem dX3_reportUnhandled_51 : decode cX3_reportUnhandled 51 = .ok (.aload_n 0, 1) := by decide +kernel
theorem dX3_reportUnhandled_52 : decode cX3_reportUnhandled 52 = .ok (.iconst 0, 1) := by decide +kernel
theorem dX3_reportUnhandled_53 : decode cX3_reportUnhandled 53 = .ok (.putfield 35, 3) := by decide +kernel
theorem dX3_reportUnhandled_56 : decode cX3_reportUnhandled 56 = .ok (.return_, 1) := by decide +kernel
theorem dX4_init_0 : decode cX4_init 0 = .ok (.aload_n 0, 1) := by decide +kernel
theorem dX4_init_1 : decode cX4_init 1 = .ok (.invokespecial 3, 3) := by decide +kernel
theorem dX4_init_4 : decode cX4_init 4 = .ok (.aload_n 0, 1) := by decide +kernel
theorem dX4_init_5 : decode cX4_init 5 = .ok (.bipush 12, 2) := by decide +kernel
theorem dX4_init_7 : decode cX4_init 7 = .ok (.newarray .int, 2) := by decide +kernel
theorem dX4_init_9 : decode cX4_init 9 = .ok (.putfield 9, 3) := by decide +kernel
theorem dX4_init_12 : decode cX4_init 12 = .ok (.aload_n 0, 1) := by decide +kernel
theorem dX4_init_13 : decode cX4_init 13 = .ok (.bipush 12, 2) := by decide +kernel
theorem dX4_init_15 : decode cX4_init 15 = .ok (.newarray .int, 2) := by decide +kernel
theorem dX4_init_17 : decode cX4_init 17 = .ok (.putfield 15, 3) := by decide +kernel
theorem dX4_init_20 : decode cX4_init 20 = .ok (.aload_n 0, 1) := by decide +kernel
theorem dX4_init_21 : decode cX4_init 21 = .ok (.bipush 12, 2) := by decide +kernel
theorem dX4_init_23 : decode cX4_init 23 = .ok (.newarray .int, 2) := by decide +kernel
theorem dX4_init_25 : decode cX4_init 25 = .ok (.putfield 18, 3) := by decide +kernel
theorem dX4_init_28 : decode cX4_init 28 = .ok (.aload_n 0, 1) := by decide +kernel
theorem dX4_init_29 : decode cX4_init 29 = .ok (.bipush 12, 2) := by decide +kernel
theorem dX4_init_31 : decode cX4_init 31 = .ok (.newarray .int, 2) := by decide +kernel
theorem dX4_init_33 : decode cX4_init 33 = .ok (.putfield 21, 3) := by decide +kernel
theorem dX4_init_36 : decode cX4_init 36 = .ok (.aload_n 0, 1) := by decide +kernel
theorem dX4_init_37 : decode cX4_init 37 = .ok (.bipush 12, 2) := by decide +kernel
theorem dX4_init_39 : decode cX4_init 39 = .ok (.newarray .int, 2) := by decide +kernel
theorem dX4_init_41 : decode cX4_init 41 = .ok (.putfield 24, 3) := by decide +kernel
theorem dX4_init_44 : decode cX4_init 44 = .ok (.aload_n 0, 1) := by decide +kernel
theorem dX4_init_45 : decode cX4_init 45 = .ok (.bipush 12, 2) := by decide +kernel
theorem dX4_init_47 : decode cX4_init 47 = .ok (.newarray .int, 2) := by decide +kernel
theorem dX4_init_49 : decode cX4_init 49 = .ok (.putfield 27, 3) := by decide +kernel
theorem dX4_init_52 : decode cX4_init 52 = .ok (.aload_n 0, 1) := by decide +kernel
theorem dX4_init_53 : decode cX4_init 53 = .ok (.bipush 12, 2) := by decide +kernel
theorem dX4_init_55 : decode cX4_init 55 = .ok (.newarray .boolean, 2) := by decide +kernel
theorem dX4_init_57 : decode cX4_init 57 = .ok (.putfield 30, 3) := by decide +kernel
theorem dX4_init_60 : decode cX4_init 60 = .ok (.aload_n 0, 1) := by decide +kernel
theorem dX4_init_61 : decode cX4_init 61 = .ok (.bipush 12, 2) := by decide +kernel
theorem dX4_init_63 : decode cX4_init 63 = .ok (.newarray .boolean, 2) := by decide +kernel
theorem dX4_init_65 : decode cX4_init 65 = .ok (.putfield 34, 3) := by decide +kernel
theorem dX4_init_68 : decode cX4_init 68 = .ok (.aload_n 0, 1) := by decide +kernel
theorem dX4_init_69 : decode cX4_init 69 = .ok (.iconst 0, 1) := by decide +kernel
theorem dX4_init_70 : decode cX4_init 70 = .ok (.putfield 37, 3) := by decide +kernel
theorem dX4_init_73 : decode cX4_init 73 = .ok (.aload_n 0, 1) := by decide +kernel
theorem dX4_init_74 : decode cX4_init 74 = .ok (.iconst 0, 1) := by decide +kernel
theorem dX4_init_75 : decode cX4_init 75 = .ok (.putfield 41, 3) := by decide +kernel
theorem dX4_init_78 : decode cX4_init 78 = .ok (.return_, 1) := by decide +kernel
theorem dX4_size_0 : decode cX4_size 0 = .ok (.aload_n 0, 1) := by decide +kernel
theorem dX4_size_1 : decode cX4_size 1 = .ok (.getfield 41, 3) := by decide +kernel
theorem dX4_size_4 : decode cX4_size 4 = .ok (.ireturn, 1) := by decide +kernel
theorem dX4_isFull_0 : decode cX4_isFull 0 = .ok (.aload_n 0, 1) := by decide +kernel
theorem dX4_isFull_1 : decode cX4_isFull 1 = .ok (.getfield 41, 3) := by decide +kernel
theorem dX4_isFull_4 : decode cX4_isFull 4 = .ok (.bipush 12, 2) := by decide +kernel
theorem dX4_isFull_6 : decode cX4_isFull 6 = .ok (.if_icmp .lt 7, 3) := by decide +kernel
theorem dX4_isFull_9 : decode cX4_isFull 9 = .ok (.iconst 1, 1) := by decide +kernel
theorem dX4_isFull_10 : decode cX4_isFull 10 = .ok (.goto 4, 3) := by decide +kernel
theorem dX4_isFull_13 : decode cX4_isFull 13 = .ok (.iconst 0, 1) := by decide +kernel
theorem dX4_isFull_14 : decode cX4_isFull 14 = .ok (.ireturn, 1) := by decide +kernel
theorem dX4_find_0 : decode cX4_find 0 = .ok (.iload_n 1, 1) := by decide +kernel
theorem dX4_find_1 : decode cX4_find 1 = .ok (.ifCond .ne 5, 3) := by decide +kernel
theorem dX4_find_4 : decode cX4_find 4 = .ok (.iconst (-1), 1) := by decide +kernel
theorem dX4_find_5 : decode cX4_find 5 = .ok (.ireturn, 1) := by decide +kernel
theorem dX4_find_6 : decode cX4_find 6 = .ok (.iconst 0, 1) := by decide +kernel
theorem dX4_find_7 : decode cX4_find 7 = .ok (.istore_n 2, 1) := by decide +kernel
theorem dX4_find_8 : decode cX4_find 8 = .ok (.iload_n 2, 1) := by decide +kernel
theorem dX4_find_9 : decode cX4_find 9 = .ok (.bipush 12, 2) := by decide +kernel
theorem dX4_find_11 : decode cX4_find 11 = .ok (.if_icmp .ge 21, 3) := by decide +kernel
theorem dX4_find_14 : decode cX4_find 14 = .ok (.aload_n 0, 1) := by decide +kernel
theorem dX4_find_15 : decode cX4_find 15 = .ok (.getfield 9, 3) := by decide +kernel
theorem dX4_find_18 : decode cX4_find 18 = .ok (.iload_n 2, 1) := by decide +kernel
theorem dX4_find_19 : decode cX4_find 19 = .ok (.iaload, 1) := by decide +kernel
theorem dX4_find_20 : decode cX4_find 20 = .ok (.iload_n 1, 1) := by decide +kernel
theorem dX4_find_21 : decode cX4_find 21 = .ok (.if_icmp .ne 5, 3) := by decide +kernel
theorem dX4_find_24 : decode cX4_find 24 = .ok (.iload_n 2, 1) := by decide +kernel
theorem dX4_find_25 : decode cX4_find 25 = .ok (.ireturn, 1) := by decide +kernel
theorem dX4_find_26 : decode cX4_find 26 = .ok (.iinc 2 1, 3) := by decide +kernel
theorem dX4_find_29 : decode cX4_find 29 = .ok (.goto (-21), 3) := by decide +kernel
theorem dX4_find_32 : decode cX4_find 32 = .ok (.iconst (-1), 1) := by decide +kernel
theorem dX4_find_33 : decode cX4_find 33 = .ok (.ireturn, 1) := by decide +kernel
theorem dX4_functionAt_0 : decode cX4_functionAt 0 = .ok (.aload_n 0, 1) := by decide +kernel
theorem dX4_functionAt_1 : decode cX4_functionAt 1 = .ok (.getfield 15, 3) := by decide +kernel
theorem dX4_functionAt_4 : decode cX4_functionAt 4 = .ok (.iload_n 1, 1) := by decide +kernel
theorem dX4_functionAt_5 : decode cX4_functionAt 5 = .ok (.iaload, 1) := by decide +kernel
theorem dX4_functionAt_6 : decode cX4_functionAt 6 = .ok (.ireturn, 1) := by decide +kernel
theorem dX4_argumentAt_0 : decode cX4_argumentAt 0 = .ok (.aload_n 0, 1) := by decide +kernel
theorem dX4_argumentAt_1 : decode cX4_argumentAt 1 = .ok (.getfield 18, 3) := by decide +kernel
theorem dX4_argumentAt_4 : decode cX4_argumentAt 4 = .ok (.iload_n 1, 1) := by decide +kernel
theorem dX4_argumentAt_5 : decode cX4_argumentAt 5 = .ok (.iaload, 1) := by decide +kernel
theorem dX4_argumentAt_6 : decode cX4_argumentAt 6 = .ok (.ireturn, 1) := by decide +kernel
theorem dX4_levelAt_0 : decode cX4_levelAt 0 = .ok (.aload_n 0, 1) := by decide +kernel
theorem dX4_levelAt_1 : decode cX4_levelAt 1 = .ok (.getfield 24, 3) := by decide +kernel
theorem dX4_levelAt_4 : decode cX4_levelAt 4 = .ok (.iload_n 1, 1) := by decide +kernel
theorem dX4_levelAt_5 : decode cX4_levelAt 5 = .ok (.iaload, 1) := by decide +kernel
theorem dX4_levelAt_6 : decode cX4_levelAt 6 = .ok (.ireturn, 1) := by decide +kernel
theorem dX4_repeatsAt_0 : decode cX4_repeatsAt 0 = .ok (.aload_n 0, 1) := by decide +kernel
theorem dX4_repeatsAt_1 : decode cX4_repeatsAt 1 = .ok (.getfield 30, 3) := by decide +kernel
theorem dX4_repeatsAt_4 : decode cX4_repeatsAt 4 = .ok (.iload_n 1, 1) := by decide +kernel
theorem dX4_repeatsAt_5 : decode cX4_repeatsAt 5 = .ok (.baload, 1) := by decide +kernel
theorem dX4_repeatsAt_6 : decode cX4_repeatsAt 6 = .ok (.ireturn, 1) := by decide +kernel
theorem dX4_dueOf_0 : decode cX4_dueOf 0 = .ok (.aload_n 0, 1) := by decide +kernel
theorem dX4_dueOf_1 : decode cX4_dueOf 1 = .ok (.iload_n 1, 1) := by decide +kernel
theorem dX4_dueOf_2 : decode cX4_dueOf 2 = .ok (.invokevirtual 44, 3) := by decide +kernel
theorem dX4_dueOf_5 : decode cX4_dueOf 5 = .ok (.istore_n 2, 1) := by decide +kernel
theorem dX4_dueOf_6 : decode cX4_dueOf 6 = .ok (.iload_n 2, 1) := by decide +kernel
theorem dX4_dueOf_7 : decode cX4_dueOf 7 = .ok (.iconst (-1), 1) := by decide +kernel
theorem dX4_dueOf_8 : decode cX4_dueOf 8 = .ok (.if_icmp .ne 5, 3) := by decide +kernel
theorem dX4_dueOf_11 : decode cX4_dueOf 11 = .ok (.iconst (-1), 1) := by decide +kernel
theorem dX4_dueOf_12 : decode cX4_dueOf 12 = .ok (.ireturn, 1) := by decide +kernel
theorem dX4_dueOf_13 : decode cX4_dueOf 13 = .ok (.aload_n 0, 1) := by decide +kernel
theorem dX4_dueOf_14 : decode cX4_dueOf 14 = .ok (.getfield 34, 3) := by decide +kernel
theorem dX4_dueOf_17 : decode cX4_dueOf 17 = .ok (.iload_n 2, 1) := by decide +kernel
theorem dX4_dueOf_18 : decode cX4_dueOf 18 = .ok (.baload, 1) := by decide +kernel
theorem dX4_dueOf_19 : decode cX4_dueOf 19 = .ok (.ifCond .eq 8, 3) := by decide +kernel
theorem dX4_dueOf_22 : decode cX4_dueOf 22 = .ok (.bipush (-2), 2) := by decide +kernel
theorem dX4_dueOf_24 : decode cX4_dueOf 24 = .ok (.goto 9, 3) := by decide +kernel
theorem dX4_dueOf_27 : decode cX4_dueOf 27 = .ok (.aload_n 0, 1) := by decide +kernel
theorem dX4_dueOf_28 : decode cX4_dueOf 28 = .ok (.getfield 27, 3) := by decide +kernel
theorem dX4_dueOf_31 : decode cX4_dueOf 31 = .ok (.iload_n 2, 1) := by decide +kernel
theorem dX4_dueOf_32 : decode cX4_dueOf 32 = .ok (.iaload, 1) := by decide +kernel
theorem dX4_dueOf_33 : decode cX4_dueOf 33 = .ok (.ireturn, 1) := by decide +kernel
theorem dX4_make_0 : decode cX4_make 0 = .ok (.aload_n 0, 1) := by decide +kernel
theorem dX4_make_1 : decode cX4_make 1 = .ok (.invokevirtual 48, 3) := by decide +kernel
theorem dX4_make_4 : decode cX4_make 4 = .ok (.istore 7, 2) := by decide +kernel
theorem dX4_make_6 : decode cX4_make 6 = .ok (.iload 7, 2) := by decide +kernel
theorem dX4_make_8 : decode cX4_make 8 = .ok (.iconst (-1), 1) := by decide +kernel
theorem dX4_make_9 : decode cX4_make 9 = .ok (.if_icmp .ne 4, 3) := by decide +kernel
theorem dX4_make_12 : decode cX4_make 12 = .ok (.return_, 1) := by decide +kernel
theorem dX4_make_13 : decode cX4_make 13 = .ok (.aload_n 0, 1) := by decide +kernel
theorem dX4_make_14 : decode cX4_make 14 = .ok (.dup, 1) := by decide +kernel
theorem dX4_make_15 : decode cX4_make 15 = .ok (.getfield 37, 3) := by decide +kernel
theorem dX4_make_18 : decode cX4_make 18 = .ok (.iconst 1, 1) := by decide +kernel
theorem dX4_make_19 : decode cX4_make 19 = .ok (.iadd, 1) := by decide +kernel
theorem dX4_make_20 : decode cX4_make 20 = .ok (.putfield 37, 3) := by decide +kernel
theorem dX4_make_23 : decode cX4_make 23 = .ok (.aload_n 0, 1) := by decide +kernel
theorem dX4_make_24 : decode cX4_make 24 = .ok (.dup, 1) := by decide +kernel
theorem dX4_make_25 : decode cX4_make 25 = .ok (.getfield 41, 3) := by decide +kernel
theorem dX4_make_28 : decode cX4_make 28 = .ok (.iconst 1, 1) := by decide +kernel
theorem dX4_make_29 : decode cX4_make 29 = .ok (.iadd, 1) := by decide +kernel
theorem dX4_make_30 : decode cX4_make 30 = .ok (.putfield 41, 3) := by decide +kernel
theorem dX4_make_33 : decode cX4_make 33 = .ok (.aload_n 0, 1) := by decide +kernel
theorem dX4_make_34 : decode cX4_make 34 = .ok (.getfield 9, 3) := by decide +kernel
theorem dX4_make_37 : decode cX4_make 37 = .ok (.iload 7, 2) := by decide +kernel
theorem dX4_make_39 : decode cX4_make 39 = .ok (.aload_n 0, 1) := by decide +kernel
theorem dX4_make_40 : decode cX4_make 40 = .ok (.getfield 37, 3) := by decide +kernel
theorem dX4_make_43 : decode cX4_make 43 = .ok (.iastore, 1) := by decide +kernel
theorem dX4_make_44 : decode cX4_make 44 = .ok (.aload_n 0, 1) := by decide +kernel
theorem dX4_make_45 : decode cX4_make 45 = .ok (.getfield 15, 3) := by decide +kernel
theorem dX4_make_48 : decode cX4_make 48 = .ok (.iload 7, 2) := by decide +kernel
theorem dX4_make_50 : decode cX4_make 50 = .ok (.iload_n 1, 1) := by decide +kernel
theorem dX4_make_51 : decode cX4_make 51 = .ok (.iastore, 1) := by decide +kernel
theorem dX4_make_52 : decode cX4_make 52 = .ok (.aload_n 0, 1) := by decide +kernel
theorem dX4_make_53 : decode cX4_make 53 = .ok (.getfield 18, 3) := by decide +kernel
theorem dX4_make_56 : decode cX4_make 56 = .ok (.iload 7, 2) := by decide +kernel
theorem dX4_make_58 : decode cX4_make 58 = .ok (.iload_n 2, 1) := by decide +kernel
theorem dX4_make_59 : decode cX4_make 59 = .ok (.iastore, 1) := by decide +kernel
theorem dX4_make_60 : decode cX4_make 60 = .ok (.aload_n 0, 1) := by decide +kernel
theorem dX4_make_61 : decode cX4_make 61 = .ok (.getfield 21, 3) := by decide +kernel
theorem dX4_make_64 : decode cX4_make 64 = .ok (.iload 7, 2) := by decide +kernel
theorem dX4_make_66 : decode cX4_make 66 = .ok (.iload_n 3, 1) := by decide +kernel
theorem dX4_make_67 : decode cX4_make 67 = .ok (.iastore, 1) := by decide +kernel
theorem dX4_make_68 : decode cX4_make 68 = .ok (.aload_n 0, 1) := by decide +kernel
theorem dX4_make_69 : decode cX4_make 69 = .ok (.getfield 30, 3) := by decide +kernel
theorem dX4_make_72 : decode cX4_make 72 = .ok (.iload 7, 2) := by decide +kernel
theorem dX4_make_74 : decode cX4_make 74 = .ok (.iload 4, 2) := by decide +kernel
theorem dX4_make_76 : decode cX4_make 76 = .ok (.bastore, 1) := by decide +kernel
theorem dX4_make_77 : decode cX4_make 77 = .ok (.aload_n 0, 1) := by decide +kernel
theorem dX4_make_78 : decode cX4_make 78 = .ok (.iload 7, 2) := by decide +kernel
theorem dX4_make_80 : decode cX4_make 80 = .ok (.iload 5, 2) := by decide +kernel
theorem dX4_make_82 : decode cX4_make 82 = .ok (.iload 6, 2) := by decide +kernel
theorem dX4_make_84 : decode cX4_make 84 = .ok (.invokevirtual 52, 3) := by decide +kernel
theorem dX4_make_87 : decode cX4_make 87 = .ok (.return_, 1) := by decide +kernel
theorem dX4_remove_0 : decode cX4_remove 0 = .ok (.aload_n 0, 1) := by decide +kernel
theorem dX4_remove_1 : decode cX4_remove 1 = .ok (.iload_n 1, 1) := by decide +kernel
theorem dX4_remove_2 : decode cX4_remove 2 = .ok (.invokevirtual 44, 3) := by decide +kernel
theorem dX4_remove_5 : decode cX4_remove 5 = .ok (.istore_n 2, 1) := by decide +kernel
theorem dX4_remove_6 : decode cX4_remove 6 = .ok (.iload_n 2, 1) := by decide +kernel
theorem dX4_remove_7 : decode cX4_remove 7 = .ok (.iconst (-1), 1) := by decide +kernel
theorem dX4_remove_8 : decode cX4_remove 8 = .ok (.if_icmp .eq 20, 3) := by decide +kernel
theorem dX4_remove_11 : decode cX4_remove 11 = .ok (.aload_n 0, 1) := by decide +kernel
theorem dX4_remove_12 : decode cX4_remove 12 = .ok (.getfield 9, 3) := by decide +kernel
theorem dX4_remove_15 : decode cX4_remove 15 = .ok (.iload_n 2, 1) := by decide +kernel
theorem dX4_remove_16 : decode cX4_remove 16 = .ok (.iconst 0, 1) := by decide +kernel
theorem dX4_remove_17 : decode cX4_remove 17 = .ok (.iastore, 1) := by decide +kernel
theorem dX4_remove_18 : decode cX4_remove 18 = .ok (.aload_n 0, 1) := by decide +kernel
theorem dX4_remove_19 : decode cX4_remove 19 = .ok (.dup, 1) := by decide +kernel
theorem dX4_remove_20 : decode cX4_remove 20 = .ok (.getfield 41, 3) := by decide +kernel
theorem dX4_remove_23 : decode cX4_remove 23 = .ok (.iconst 1, 1) := by decide +kernel
theorem dX4_remove_24 : decode cX4_remove 24 = .ok (.isub, 1) := by decide +kernel
theorem dX4_remove_25 : decode cX4_remove 25 = .ok (.putfield 41, 3) := by decide +kernel
theorem dX4_remove_28 : decode cX4_remove 28 = .ok (.return_, 1) := by decide +kernel
theorem dX4_restart_0 : decode cX4_restart 0 = .ok (.aload_n 0, 1) := by decide +kernel
theorem dX4_restart_1 : decode cX4_restart 1 = .ok (.iload_n 1, 1) := by decide +kernel
theorem dX4_restart_2 : decode cX4_restart 2 = .ok (.invokevirtual 44, 3) := by decide +kernel
theorem dX4_restart_5 : decode cX4_restart 5 = .ok (.istore_n 3, 1) := by decide +kernel
theorem dX4_restart_6 : decode cX4_restart 6 = .ok (.iload_n 3, 1) := by decide +kernel
theorem dX4_restart_7 : decode cX4_restart 7 = .ok (.iconst (-1), 1) := by decide +kernel
theorem dX4_restart_8 : decode cX4_restart 8 = .ok (.if_icmp .eq 17, 3) := by decide +kernel
theorem dX4_restart_11 : decode cX4_restart 11 = .ok (.aload_n 0, 1) := by decide +kernel
theorem dX4_restart_12 : decode cX4_restart 12 = .ok (.iload_n 3, 1) := by decide +kernel
theorem dX4_restart_13 : decode cX4_restart 13 = .ok (.aload_n 0, 1) := by decide +kernel
theorem dX4_restart_14 : decode cX4_restart 14 = .ok (.getfield 24, 3) := by decide +kernel
theorem dX4_restart_17 : decode cX4_restart 17 = .ok (.iload_n 3, 1) := by decide +kernel
theorem dX4_restart_18 : decode cX4_restart 18 = .ok (.iaload, 1) := by decide +kernel
theorem dX4_restart_19 : decode cX4_restart 19 = .ok (.iconst 1, 1) := by decide +kernel
theorem dX4_restart_20 : decode cX4_restart 20 = .ok (.iadd, 1) := by decide +kernel
theorem dX4_restart_21 : decode cX4_restart 21 = .ok (.iload_n 2, 1) := by decide +kernel
theorem dX4_restart_22 : decode cX4_restart 22 = .ok (.invokevirtual 52, 3) := by decide +kernel
theorem dX4_restart_25 : decode cX4_restart 25 = .ok (.return_, 1) := by decide +kernel
theorem dX4_putTasks_0 : decode cX4_putTasks 0 = .ok (.iconst 0, 1) := by decide +kernel
theorem dX4_putTasks_1 : decode cX4_putTasks 1 = .ok (.istore_n 3, 1) := by decide +kernel
theorem dX4_putTasks_2 : decode cX4_putTasks 2 = .ok (.iload_n 3, 1) := by decide +kernel
theorem dX4_putTasks_3 : decode cX4_putTasks 3 = .ok (.bipush 12, 2) := by decide +kernel
theorem dX4_putTasks_5 : decode cX4_putTasks 5 = .ok (.if_icmp .ge 44, 3) := by decide +kernel
theorem dX4_putTasks_8 : decode cX4_putTasks 8 = .ok (.aload_n 0, 1) := by decide +kernel
theorem dX4_putTasks_9 : decode cX4_putTasks 9 = .ok (.iload_n 1, 1) := by decide +kernel
theorem dX4_putTasks_10 : decode cX4_putTasks 10 = .ok (.invokevirtual 56, 3) := by decide +kernel
theorem dX4_putTasks_13 : decode cX4_putTasks 13 = .ok (.istore 4, 2) := by decide +kernel
theorem dX4_putTasks_15 : decode cX4_putTasks 15 = .ok (.iload 4, 2) := by decide +kernel
theorem dX4_putTasks_17 : decode cX4_putTasks 17 = .ok (.iconst (-1), 1) := by decide +kernel
theorem dX4_putTasks_18 : decode cX4_putTasks 18 = .ok (.if_icmp .ne 4, 3) := by decide +kernel
theorem dX4_putTasks_21 : decode cX4_putTasks 21 = .ok (.return_, 1) := by decide +kernel
theorem dX4_putTasks_22 : decode cX4_putTasks 22 = .ok (.aload_n 0, 1) := by decide +kernel
theorem dX4_putTasks_23 : decode cX4_putTasks 23 = .ok (.getfield 34, 3) := by decide +kernel
theorem dX4_putTasks_26 : decode cX4_putTasks 26 = .ok (.iload 4, 2) := by decide +kernel
theorem dX4_putTasks_28 : decode cX4_putTasks 28 = .ok (.iconst 1, 1) := by decide +kernel
theorem dX4_putTasks_29 : decode cX4_putTasks 29 = .ok (.bastore, 1) := by decide +kernel
theorem dX4_putTasks_30 : decode cX4_putTasks 30 = .ok (.aload_n 2, 1) := by decide +kernel
theorem dX4_putTasks_31 : decode cX4_putTasks 31 = .ok (.iconst 1, 1) := by decide +kernel
theorem dX4_putTasks_32 : decode cX4_putTasks 32 = .ok (.aload_n 0, 1) := by decide +kernel
theorem dX4_putTasks_33 : decode cX4_putTasks 33 = .ok (.getfield 9, 3) := by decide +kernel
theorem dX4_putTasks_36 : decode cX4_putTasks 36 = .ok (.iload 4, 2) := by decide +kernel
theorem dX4_putTasks_38 : decode cX4_putTasks 38 = .ok (.iaload, 1) := by decide +kernel
theorem dX4_putTasks_39 : decode cX4_putTasks 39 = .ok (.iconst 0, 1) := by decide +kernel
theorem dX4_putTasks_40 : decode cX4_putTasks 40 = .ok (.invokevirtual 59, 3) := by decide +kernel
theorem dX4_putTasks_43 : decode cX4_putTasks 43 = .ok (.iinc 3 1, 3) := by decide +kernel
theorem dX4_putTasks_46 : decode cX4_putTasks 46 = .ok (.goto (-44), 3) := by decide +kernel
theorem dX4_putTasks_49 : decode cX4_putTasks 49 = .ok (.return_, 1) := by decide +kernel
theorem dX4_freePlace_0 : decode cX4_freePlace 0 = .ok (.iconst 0, 1) := by decide +kernel
theorem dX4_freePlace_1 : decode cX4_freePlace 1 = .ok (.istore_n 1, 1) := by decide +kernel
theorem dX4_freePlace_2 : decode cX4_freePlace 2 = .ok (.iload_n 1, 1) := by decide +kernel
theorem dX4_freePlace_3 : decode cX4_freePlace 3 = .ok (.bipush 12, 2) := by decide +kernel
theorem dX4_freePlace_5 : decode cX4_freePlace 5 = .ok (.if_icmp .ge 20, 3) := by decide +kernel
theorem dX4_freePlace_8 : decode cX4_freePlace 8 = .ok (.aload_n 0, 1) := by decide +kernel
theorem dX4_freePlace_9 : decode cX4_freePlace 9 = .ok (.getfield 9, 3) := by decide +kernel
theorem dX4_freePlace_12 : decode cX4_freePlace 12 = .ok (.iload_n 1, 1) := by decide +kernel
theorem dX4_freePlace_13 : decode cX4_freePlace 13 = .ok (.iaload, 1) := by decide +kernel
theorem dX4_freePlace_14 : decode cX4_freePlace 14 = .ok (.ifCond .ne 5, 3) := by decide +kernel
theorem dX4_freePlace_17 : decode cX4_freePlace 17 = .ok (.iload_n 1, 1) := by decide +kernel
theorem dX4_freePlace_18 : decode cX4_freePlace 18 = .ok (.ireturn, 1) := by decide +kernel
theorem dX4_freePlace_19 : decode cX4_freePlace 19 = .ok (.iinc 1 1, 3) := by decide +kernel
theorem dX4_freePlace_22 : decode cX4_freePlace 22 = .ok (.goto (-20), 3) := by decide +kernel
theorem dX4_freePlace_25 : decode cX4_freePlace 25 = .ok (.iconst (-1), 1) := by decide +kernel
theorem dX4_freePlace_26 : decode cX4_freePlace 26 = .ok (.ireturn, 1) := by decide +kernel
theorem dX4_start_0 : decode cX4_start 0 = .ok (.iload_n 2, 1) := by decide +kernel
theorem dX4_start_1 : decode cX4_start 1 = .ok (.iconst 5, 1) := by decide +kernel
theorem dX4_start_2 : decode cX4_start 2 = .ok (.if_icmp .le 7, 3) := by decide +kernel
theorem dX4_start_5 : decode cX4_start 5 = .ok (.iconst 4, 1) := by decide +kernel
theorem dX4_start_6 : decode cX4_start 6 = .ok (.goto 4, 3) := by decide +kernel
theorem dX4_start_9 : decode cX4_start 9 = .ok (.iconst 1, 1) := by decide +kernel
theorem dX4_start_10 : decode cX4_start 10 = .ok (.istore 4, 2) := by decide +kernel
theorem dX4_start_12 : decode cX4_start 12 = .ok (.aload_n 0, 1) := by decide +kernel
theorem dX4_start_13 : decode cX4_start 13 = .ok (.getfield 24, 3) := by decide +kernel
theorem dX4_start_16 : decode cX4_start 16 = .ok (.iload_n 1, 1) := by decide +kernel
theorem dX4_start_17 : decode cX4_start 17 = .ok (.iload_n 2, 1) := by decide +kernel
theorem dX4_start_18 : decode cX4_start 18 = .ok (.iastore, 1) := by decide +kernel
theorem dX4_start_19 : decode cX4_start 19 = .ok (.aload_n 0, 1) := by decide +kernel
theorem dX4_start_20 : decode cX4_start 20 = .ok (.getfield 34, 3) := by decide +kernel
theorem dX4_start_23 : decode cX4_start 23 = .ok (.iload_n 1, 1) := by decide +kernel
theorem dX4_start_24 : decode cX4_start 24 = .ok (.iconst 0, 1) := by decide +kernel
theorem dX4_start_25 : decode cX4_start 25 = .ok (.bastore, 1) := by decide +kernel
theorem dX4_start_26 : decode cX4_start 26 = .ok (.aload_n 0, 1) := by decide +kernel
theorem dX4_start_27 : decode cX4_start 27 = .ok (.getfield 27, 3) := by decide +kernel
theorem dX4_start_30 : decode cX4_start 30 = .ok (.iload_n 1, 1) := by decide +kernel
theorem dX4_start_31 : decode cX4_start 31 = .ok (.iload_n 3, 1) := by decide +kernel
theorem dX4_start_32 : decode cX4_start 32 = .ok (.aload_n 0, 1) := by decide +kernel
theorem dX4_start_33 : decode cX4_start 33 = .ok (.getfield 21, 3) := by decide +kernel
theorem dX4_start_36 : decode cX4_start 36 = .ok (.iload_n 1, 1) := by decide +kernel
theorem dX4_start_37 : decode cX4_start 37 = .ok (.iaload, 1) := by decide +kernel
theorem dX4_start_38 : decode cX4_start 38 = .ok (.iload 4, 2) := by decide +kernel
theorem dX4_start_40 : decode cX4_start 40 = .ok (.if_icmp .ge 8, 3) := by decide +kernel
theorem dX4_start_43 : decode cX4_start 43 = .ok (.iload 4, 2) := by decide +kernel
theorem dX4_start_45 : decode cX4_start 45 = .ok (.goto 9, 3) := by decide +kernel
theorem dX4_start_48 : decode cX4_start 48 = .ok (.aload_n 0, 1) := by decide +kernel
theorem dX4_start_49 : decode cX4_start 49 = .ok (.getfield 21, 3) := by decide +kernel
theorem dX4_start_52 : decode cX4_start 52 = .ok (.iload_n 1, 1) := by decide +kernel
theorem dX4_start_53 : decode cX4_start 53 = .ok (.iaload, 1) := by decide +kernel
theorem dX4_start_54 : decode cX4_start 54 = .ok (.iadd, 1) := by decide +kernel
theorem dX4_start_55 : decode cX4_start 55 = .ok (.iastore, 1) := by decide +kernel
theorem dX4_start_56 : decode cX4_start 56 = .ok (.return_, 1) := by decide +kernel
theorem dX4_nextDue_0 : decode cX4_nextDue 0 = .ok (.iconst (-1), 1) := by decide +kernel
theorem dX4_nextDue_1 : decode cX4_nextDue 1 = .ok (.istore_n 2, 1) := by decide +kernel
theorem dX4_nextDue_2 : decode cX4_nextDue 2 = .ok (.iconst 0, 1) := by decide +kernel
theorem dX4_nextDue_3 : decode cX4_nextDue 3 = .ok (.istore_n 3, 1) := by decide +kernel
theorem dX4_nextDue_4 : decode cX4_nextDue 4 = .ok (.iload_n 3, 1) := by decide +kernel
theorem dX4_nextDue_5 : decode cX4_nextDue 5 = .ok (.bipush 12, 2) := by decide +kernel
theorem dX4_nextDue_7 : decode cX4_nextDue 7 = .ok (.if_icmp .ge 65, 3) := by decide +kernel
theorem dX4_nextDue_10 : decode cX4_nextDue 10 = .ok (.aload_n 0, 1) := by decide +kernel
theorem dX4_nextDue_11 : decode cX4_nextDue 11 = .ok (.getfield 9, 3) := by decide +kernel
theorem dX4_nextDue_14 : decode cX4_nextDue 14 = .ok (.iload_n 3, 1) := by decide +kernel
theorem dX4_nextDue_15 : decode cX4_nextDue 15 = .ok (.iaload, 1) := by decide +kernel
theorem dX4_nextDue_16 : decode cX4_nextDue 16 = .ok (.ifCond .eq 26, 3) := by decide +kernel
theorem dX4_nextDue_19 : decode cX4_nextDue 19 = .ok (.aload_n 0, 1) := by decide +kernel
theorem dX4_nextDue_20 : decode cX4_nextDue 20 = .ok (.getfield 34, 3) := by decide +kernel
theorem dX4_nextDue_23 : decode cX4_nextDue 23 = .ok (.iload_n 3, 1) := by decide +kernel
theorem dX4_nextDue_24 : decode cX4_nextDue 24 = .ok (.baload, 1) := by decide +kernel
theorem dX4_nextDue_25 : decode cX4_nextDue 25 = .ok (.ifCond .ne 17, 3) := by decide +kernel
theorem dX4_nextDue_28 : decode cX4_nextDue 28 = .ok (.aload_n 0, 1) := by decide +kernel
theorem dX4_nextDue_29 : decode cX4_nextDue 29 = .ok (.getfield 27, 3) := by decide +kernel
theorem dX4_nextDue_32 : decode cX4_nextDue 32 = .ok (.iload_n 3, 1) := by decide +kernel
theorem dX4_nextDue_33 : decode cX4_nextDue 33 = .ok (.iaload, 1) := by decide +kernel
theorem dX4_nextDue_34 : decode cX4_nextDue 34 = .ok (.iload_n 1, 1) := by decide +kernel
theorem dX4_nextDue_35 : decode cX4_nextDue 35 = .ok (.if_icmp .gt 7, 3) := by decide +kernel
theorem dX4_nextDue_38 : decode cX4_nextDue 38 = .ok (.iconst 1, 1) := by decide +kernel
theorem dX4_nextDue_39 : decode cX4_nextDue 39 = .ok (.goto 4, 3) := by decide +kernel
theorem dX4_nextDue_42 : decode cX4_nextDue 42 = .ok (.iconst 0, 1) := by decide +kernel
theorem dX4_nextDue_43 : decode cX4_nextDue 43 = .ok (.istore 4, 2) := by decide +kernel
theorem dX4_nextDue_45 : decode cX4_nextDue 45 = .ok (.iload 4, 2) := by decide +kernel
theorem dX4_nextDue_47 : decode cX4_nextDue 47 = .ok (.ifCond .eq 19, 3) := by decide +kernel
theorem dX4_nextDue_50 : decode cX4_nextDue 50 = .ok (.iload_n 2, 1) := by decide +kernel
theorem dX4_nextDue_51 : decode cX4_nextDue 51 = .ok (.iconst (-1), 1) := by decide +kernel
theorem dX4_nextDue_52 : decode cX4_nextDue 52 = .ok (.if_icmp .eq 12, 3) := by decide +kernel
theorem dX4_nextDue_55 : decode cX4_nextDue 55 = .ok (.aload_n 0, 1) := by decide +kernel
theorem dX4_nextDue_56 : decode cX4_nextDue 56 = .ok (.iload_n 3, 1) := by decide +kernel
theorem dX4_nextDue_57 : decode cX4_nextDue 57 = .ok (.iload_n 2, 1) := by decide +kernel
theorem dX4_nextDue_58 : decode cX4_nextDue 58 = .ok (.invokevirtual 64, 3) := by decide +kernel
theorem dX4_nextDue_61 : decode cX4_nextDue 61 = .ok (.ifCond .eq 5, 3) := by decide +kernel
theorem dX4_nextDue_64 : decode cX4_nextDue 64 = .ok (.iload_n 3, 1) := by decide +kernel
theorem dX4_nextDue_65 : decode cX4_nextDue 65 = .ok (.istore_n 2, 1) := by decide +kernel
theorem dX4_nextDue_66 : decode cX4_nextDue 66 = .ok (.iinc 3 1, 3) := by decide +kernel
theorem dX4_nextDue_69 : decode cX4_nextDue 69 = .ok (.goto (-65), 3) := by decide +kernel
theorem dX4_nextDue_72 : decode cX4_nextDue 72 = .ok (.iload_n 2, 1) := by decide +kernel
theorem dX4_nextDue_73 : decode cX4_nextDue 73 = .ok (.ireturn, 1) := by decide +kernel
theorem dX4_isBefore_0 : decode cX4_isBefore 0 = .ok (.aload_n 0, 1) := by decide +kernel
theorem dX4_isBefore_1 : decode cX4_isBefore 1 = .ok (.getfield 27, 3) := by decide +kernel
theorem dX4_isBefore_4 : decode cX4_isBefore 4 = .ok (.iload_n 1, 1) := by decide +kernel
theorem dX4_isBefore_5 : decode cX4_isBefore 5 = .ok (.iaload, 1) := by decide +kernel
theorem dX4_isBefore_6 : decode cX4_isBefore 6 = .ok (.aload_n 0, 1) := by decide +kernel
theorem dX4_isBefore_7 : decode cX4_isBefore 7 = .ok (.getfield 27, 3) := by decide +kernel
theorem dX4_isBefore_10 : decode cX4_isBefore 10 = .ok (.iload_n 2, 1) := by decide +kernel
theorem dX4_isBefore_11 : decode cX4_isBefore 11 = .ok (.iaload, 1) := by decide +kernel
theorem dX4_isBefore_12 : decode cX4_isBefore 12 = .ok (.if_icmp .eq 24, 3) := by decide +kernel
theorem dX4_isBefore_15 : decode cX4_isBefore 15 = .ok (.aload_n 0, 1) := by decide +kernel
theorem dX4_isBefore_16 : decode cX4_isBefore 16 = .ok (.getfield 27, 3) := by decide +kernel
theorem dX4_isBefore_19 : decode cX4_isBefore 19 = .ok (.iload_n 1, 1) := by decide +kernel
theorem dX4_isBefore_20 : decode cX4_isBefore 20 = .ok (.iaload, 1) := by decide +kernel
theorem dX4_isBefore_21 : decode cX4_isBefore 21 = .ok (.aload_n 0, 1) := by decide +kernel
theorem dX4_isBefore_22 : decode cX4_isBefore 22 = .ok (.getfield 27, 3) := by decide +kernel
theorem dX4_isBefore_25 : decode cX4_isBefore 25 = .ok (.iload_n 2, 1) := by decide +kernel
theorem dX4_isBefore_26 : decode cX4_isBefore 26 = .ok (.iaload, 1) := by decide +kernel
theorem dX4_isBefore_27 : decode cX4_isBefore 27 = .ok (.if_icmp .ge 7, 3) := by decide +kernel
theorem dX4_isBefore_30 : decode cX4_isBefore 30 = .ok (.iconst 1, 1) := by decide +kernel
theorem dX4_isBefore_31 : decode cX4_isBefore 31 = .ok (.goto 4, 3) := by decide +kernel
theorem dX4_isBefore_34 : decode cX4_isBefore 34 = .ok (.iconst 0, 1) := by decide +kernel
theorem dX4_isBefore_35 : decode cX4_isBefore 35 = .ok (.ireturn, 1) := by decide +kernel
theorem dX4_isBefore_36 : decode cX4_isBefore 36 = .ok (.aload_n 0, 1) := by decide +kernel
theorem dX4_isBefore_37 : decode cX4_isBefore 37 = .ok (.getfield 9, 3) := by decide +kernel
theorem dX4_isBefore_40 : decode cX4_isBefore 40 = .ok (.iload_n 1, 1) := by decide +kernel
theorem dX4_isBefore_41 : decode cX4_isBefore 41 = .ok (.iaload, 1) := by decide +kernel
theorem dX4_isBefore_42 : decode cX4_isBefore 42 = .ok (.aload_n 0, 1) := by decide +kernel
theorem dX4_isBefore_43 : decode cX4_isBefore 43 = .ok (.getfield 9, 3) := by decide +kernel
theorem dX4_isBefore_46 : decode cX4_isBefore 46 = .ok (.iload_n 2, 1) := by decide +kernel
theorem dX4_isBefore_47 : decode cX4_isBefore 47 = .ok (.iaload, 1) := by decide +kernel
theorem dX4_isBefore_48 : decode cX4_isBefore 48 = .ok (.if_icmp .ge 7, 3) := by decide +kernel
theorem dX4_isBefore_51 : decode cX4_isBefore 51 = .ok (.iconst 1, 1) := by decide +kernel
theorem dX4_isBefore_52 : decode cX4_isBefore 52 = .ok (.goto 4, 3) := by decide +kernel
theorem dX4_isBefore_55 : decode cX4_isBefore 55 = .ok (.iconst 0, 1) := by decide +kernel
theorem dX4_isBefore_56 : decode cX4_isBefore 56 = .ok (.ireturn, 1) := by decide +kernel
end
section
theorem dX5_init_0 : decode cX5_init 0 = .ok (.aload_n 0, 1) := by decide +kernel
theorem dX5_init_1 : decode cX5_init 1 = .ok (.invokespecial 3, 3) := by decide +kernel
theorem dX5_init_4 : decode cX5_init 4 = .ok (.aload_n 0, 1) := by decide +kernel
theorem dX5_init_5 : decode cX5_init 5 = .ok (.new 9, 3) := by decide +kernel
theorem dX5_init_8 : decode cX5_init 8 = .ok (.dup, 1) := by decide +kernel
theorem dX5_init_9 : decode cX5_init 9 = .ok (.invokespecial 11, 3) := by decide +kernel
theorem dX5_init_12 : decode cX5_init 12 = .ok (.putfield 12, 3) := by decide +kernel
theorem dX5_init_15 : decode cX5_init 15 = .ok (.aload_n 0, 1) := by decide +kernel
theorem dX5_init_16 : decode cX5_init 16 = .ok (.bipush 8, 2) := by decide +kernel
theorem dX5_init_18 : decode cX5_init 18 = .ok (.newarray .int, 2) := by decide +kernel
theorem dX5_init_20 : decode cX5_init 20 = .ok (.putfield 16, 3) := by decide +kernel
theorem dX5_init_23 : decode cX5_init 23 = .ok (.aload_n 0, 1) := by decide +kernel
theorem dX5_init_24 : decode cX5_init 24 = .ok (.iconst 3, 1) := by decide +kernel
theorem dX5_init_25 : decode cX5_init 25 = .ok (.anewarray 20, 3) := by decide +kernel
theorem dX5_init_28 : decode cX5_init 28 = .ok (.dup, 1) := by decide +kernel
theorem dX5_init_29 : decode cX5_init 29 = .ok (.iconst 0, 1) := by decide +kernel
theorem dX5_init_30 : decode cX5_init 30 = .ok (.new 20, 3) := by decide +kernel
theorem dX5_init_33 : decode cX5_init 33 = .ok (.dup, 1) := by decide +kernel
theorem dX5_init_34 : decode cX5_init 34 = .ok (.bipush 40, 2) := by decide +kernel
theorem dX5_init_36 : decode cX5_init 36 = .ok (.invokespecial 22, 3) := by decide +kernel
theorem dX5_init_39 : decode cX5_init 39 = .ok (.aastore, 1) := by decide +kernel
theorem dX5_init_40 : decode cX5_init 40 = .ok (.dup, 1) := by decide +kernel
theorem dX5_init_41 : decode cX5_init 41 = .ok (.iconst 1, 1) := by decide +kernel
theorem dX5_init_42 : decode cX5_init 42 = .ok (.new 20, 3) := by decide +kernel
theorem dX5_init_45 : decode cX5_init 45 = .ok (.dup, 1) := by decide +kernel
theorem dX5_init_46 : decode cX5_init 46 = .ok (.sipush 1051, 3) := by decide +kernel
theorem dX5_init_49 : decode cX5_init 49 = .ok (.invokespecial 22, 3) := by decide +kernel
theorem dX5_init_52 : decode cX5_init 52 = .ok (.aastore, 1) := by decide +kernel
theorem dX5_init_53 : decode cX5_init 53 = .ok (.dup, 1) := by decide +kernel
theorem dX5_init_54 : decode cX5_init 54 = .ok (.iconst 2, 1) := by decide +kernel
theorem dX5_init_55 : decode cX5_init 55 = .ok (.new 20, 3) := by decide +kernel
theorem dX5_init_58 : decode cX5_init 58 = .ok (.dup, 1) := by decide +kernel
theorem dX5_init_59 : decode cX5_init 59 = .ok (.bipush 40, 2) := by decide +kernel
theorem dX5_init_61 : decode cX5_init 61 = .ok (.invokespecial 22, 3) := by decide +kernel
theorem dX5_init_64 : decode cX5_init 64 = .ok (.aastore, 1) := by decide +kernel
theorem dX5_init_65 : decode cX5_init 65 = .ok (.putfield 25, 3) := by decide +kernel
theorem dX5_init_68 : decode cX5_init 68 = .ok (.aload_n 0, 1) := by decide +kernel
theorem dX5_init_69 : decode cX5_init 69 = .ok (.new 20, 3) := by decide +kernel
theorem dX5_init_72 : decode cX5_init 72 = .ok (.dup, 1) := by decide +kernel
theorem dX5_init_73 : decode cX5_init 73 = .ok (.sipush 180, 3) := by decide +kernel
theorem dX5_init_76 : decode cX5_init 76 = .ok (.invokespecial 22, 3) := by decide +kernel
theorem dX5_init_79 : decode cX5_init 79 = .ok (.putfield 29, 3) := by decide +kernel
theorem dX5_init_82 : decode cX5_init 82 = .ok (.aload_n 0, 1) := by decide +kernel
theorem dX5_init_83 : decode cX5_init 83 = .ok (.new 20, 3) := by decide +kernel
theorem dX5_init_86 : decode cX5_init 86 = .ok (.dup, 1) := by decide +kernel
theorem dX5_init_87 : decode cX5_init 87 = .ok (.bipush 8, 2) := by decide +kernel
theorem dX5_init_89 : decode cX5_init 89 = .ok (.invokespecial 22, 3) := by decide +kernel
theorem dX5_init_92 : decode cX5_init 92 = .ok (.putfield 33, 3) := by decide +kernel
theorem dX5_init_95 : decode cX5_init 95 = .ok (.aload_n 0, 1) := by decide +kernel
theorem dX5_init_96 : decode cX5_init 96 = .ok (.new 36, 3) := by decide +kernel
theorem dX5_init_99 : decode cX5_init 99 = .ok (.dup, 1) := by decide +kernel
theorem dX5_init_100 : decode cX5_init 100 = .ok (.invokespecial 38, 3) := by decide +kernel
theorem dX5_init_103 : decode cX5_init 103 = .ok (.putfield 39, 3) := by decide +kernel
theorem dX5_init_106 : decode cX5_init 106 = .ok (.aload_n 0, 1) := by decide +kernel
theorem dX5_init_107 : decode cX5_init 107 = .ok (.new 36, 3) := by decide +kernel
theorem dX5_init_110 : decode cX5_init 110 = .ok (.dup, 1) := by decide +kernel
theorem dX5_init_111 : decode cX5_init 111 = .ok (.invokespecial 38, 3) := by decide +kernel
theorem dX5_init_114 : decode cX5_init 114 = .ok (.putfield 43, 3) := by decide +kernel
theorem dX5_init_117 : decode cX5_init 117 = .ok (.aload_n 0, 1) := by decide +kernel
theorem dX5_init_118 : decode cX5_init 118 = .ok (.new 46, 3) := by decide +kernel
theorem dX5_init_121 : decode cX5_init 121 = .ok (.dup, 1) := by decide +kernel
theorem dX5_init_122 : decode cX5_init 122 = .ok (.aload_n 0, 1) := by decide +kernel
theorem dX5_init_123 : decode cX5_init 123 = .ok (.getfield 29, 3) := by decide +kernel
theorem dX5_init_126 : decode cX5_init 126 = .ok (.aload_n 0, 1) := by decide +kernel
theorem dX5_init_127 : decode cX5_init 127 = .ok (.getfield 43, 3) := by decide +kernel
theorem dX5_init_130 : decode cX5_init 130 = .ok (.invokespecial 48, 3) := by decide +kernel
theorem dX5_init_133 : decode cX5_init 133 = .ok (.putfield 51, 3) := by decide +kernel
theorem dX5_init_136 : decode cX5_init 136 = .ok (.aload_n 0, 1) := by decide +kernel
theorem dX5_init_137 : decode cX5_init 137 = .ok (.new 55, 3) := by decide +kernel
theorem dX5_init_140 : decode cX5_init 140 = .ok (.dup, 1) := by decide +kernel
theorem dX5_init_141 : decode cX5_init 141 = .ok (.invokespecial 57, 3) := by decide +kernel
theorem dX5_init_144 : decode cX5_init 144 = .ok (.putfield 58, 3) := by decide +kernel
theorem dX5_init_147 : decode cX5_init 147 = .ok (.aload_n 0, 1) := by decide +kernel
theorem dX5_init_148 : decode cX5_init 148 = .ok (.iconst 0, 1) := by decide +kernel
theorem dX5_init_149 : decode cX5_init 149 = .ok (.putfield 62, 3) := by decide +kernel
theorem dX5_init_152 : decode cX5_init 152 = .ok (.aload_n 0, 1) := by decide +kernel
theorem dX5_init_153 : decode cX5_init 153 = .ok (.iconst 0, 1) := by decide +kernel
theorem dX5_init_154 : decode cX5_init 154 = .ok (.putfield 66, 3) := by decide +kernel
theorem dX5_init_157 : decode cX5_init 157 = .ok (.aload_n 0, 1) := by decide +kernel
theorem dX5_init_158 : decode cX5_init 158 = .ok (.iconst 0, 1) := by decide +kernel
theorem dX5_init_159 : decode cX5_init 159 = .ok (.putfield 69, 3) := by decide +kernel
theorem dX5_init_162 : decode cX5_init 162 = .ok (.aload_n 0, 1) := by decide +kernel
theorem dX5_init_163 : decode cX5_init 163 = .ok (.iconst 0, 1) := by decide +kernel
theorem dX5_init_164 : decode cX5_init 164 = .ok (.putfield 73, 3) := by decide +kernel
theorem dX5_init_167 : decode cX5_init 167 = .ok (.aload_n 0, 1) := by decide +kernel
theorem dX5_init_168 : decode cX5_init 168 = .ok (.iconst 0, 1) := by decide +kernel
theorem dX5_init_169 : decode cX5_init 169 = .ok (.putfield 76, 3) := by decide +kernel
theorem dX5_init_172 : decode cX5_init 172 = .ok (.aload_n 0, 1) := by decide +kernel
theorem dX5_init_173 : decode cX5_init 173 = .ok (.iconst 0, 1) := by decide +kernel
theorem dX5_init_174 : decode cX5_init 174 = .ok (.putfield 79, 3) := by decide +kernel
theorem dX5_init_177 : decode cX5_init 177 = .ok (.aload_n 0, 1) := by decide +kernel
theorem dX5_init_178 : decode cX5_init 178 = .ok (.iconst 0, 1) := by decide +kernel
theorem dX5_init_179 : decode cX5_init 179 = .ok (.putfield 82, 3) := by decide +kernel
theorem dX5_init_182 : decode cX5_init 182 = .ok (.aload_n 0, 1) := by decide +kernel
theorem dX5_init_183 : decode cX5_init 183 = .ok (.iconst 0, 1) := by decide +kernel
theorem dX5_init_184 : decode cX5_init 184 = .ok (.putfield 85, 3) := by decide +kernel
theorem dX5_init_187 : decode cX5_init 187 = .ok (.aload_n 0, 1) := by decide +kernel
theorem dX5_init_188 : decode cX5_init 188 = .ok (.iconst 0, 1) := by decide +kernel
theorem dX5_init_189 : decode cX5_init 189 = .ok (.putfield 88, 3) := by decide +kernel
theorem dX5_init_192 : decode cX5_init 192 = .ok (.iconst 0, 1) := by decide +kernel
theorem dX5_init_193 : decode cX5_init 193 = .ok (.istore_n 1, 1) := by decide +kernel
theorem dX5_init_194 : decode cX5_init 194 = .ok (.iload_n 1, 1) := by decide +kernel
theorem dX5_init_195 : decode cX5_init 195 = .ok (.bipush 8, 2) := by decide +kernel
theorem dX5_init_197 : decode cX5_init 197 = .ok (.if_icmp .ge 16, 3) := by decide +kernel
theorem dX5_init_200 : decode cX5_init 200 = .ok (.aload_n 0, 1) := by decide +kernel
theorem dX5_init_201 : decode cX5_init 201 = .ok (.getfield 16, 3) := by decide +kernel
theorem dX5_init_204 : decode cX5_init 204 = .ok (.iload_n 1, 1) := by decide +kernel
theorem dX5_init_205 : decode cX5_init 205 = .ok (.iconst (-1), 1) := by decide +kernel
theorem dX5_init_206 : decode cX5_init 206 = .ok (.iastore, 1) := by decide +kernel
theorem dX5_init_207 : decode cX5_init 207 = .ok (.iinc 1 1, 3) := by decide +kernel
theorem dX5_init_210 : decode cX5_init 210 = .ok (.goto (-16), 3) := by decide +kernel
theorem dX5_init_213 : decode cX5_init 213 = .ok (.return_, 1) := by decide +kernel
theorem dX5_step_0 : decode cX5_step 0 = .ok (.iload_n 1, 1) := by decide +kernel
theorem dX5_step_1 : decode cX5_step 1 = .ok (.invokestatic 91, 3) := by decide +kernel
theorem dX5_step_4 : decode cX5_step 4 = .ok (.ifCond .eq 13, 3) := by decide +kernel
theorem dX5_step_7 : decode cX5_step 7 = .ok (.iload_n 2, 1) := by decide +kernel
theorem dX5_step_8 : decode cX5_step 8 = .ok (.iload_n 3, 1) := by decide +kernel
theorem dX5_step_9 : decode cX5_step 9 = .ok (.iload 4, 2) := by decide +kernel
theorem dX5_step_11 : decode cX5_step 11 = .ok (.invokestatic 95, 3) := by decide +kernel
theorem dX5_step_14 : decode cX5_step 14 = .ok (.ifCond .ne 13, 3) := by decide +kernel
theorem dX5_step_17 : decode cX5_step 17 = .ok (.new 99, 3) := by decide +kernel
theorem dX5_step_20 : decode cX5_step 20 = .ok (.dup, 1) := by decide +kernel
theorem dX5_step_21 : decode cX5_step 21 = .ok (.ldc 101, 2) := by decide +kernel
theorem dX5_step_23 : decode cX5_step 23 = .ok (.invokespecial 103, 3) := by decide +kernel
theorem dX5_step_26 : decode cX5_step 26 = .ok (.athrow, 1) := by decide +kernel
theorem dX5_step_27 : decode cX5_step 27 = .ok (.aload_n 0, 1) := by decide +kernel
theorem dX5_step_28 : decode cX5_step 28 = .ok (.getfield 12, 3) := by decide +kernel
theorem dX5_step_31 : decode cX5_step 31 = .ok (.iload_n 1, 1) := by decide +kernel
theorem dX5_step_32 : decode cX5_step 32 = .ok (.invokevirtual 106, 3) := by decide +kernel
theorem dX5_step_35 : decode cX5_step 35 = .ok (.bipush 6, 2) := by decide +kernel
theorem dX5_step_37 : decode cX5_step 37 = .ok (.if_icmp .lt 13, 3) := by decide +kernel
theorem dX5_step_40 : decode cX5_step 40 = .ok (.new 110, 3) := by decide +kernel
theorem dX5_step_43 : decode cX5_step 43 = .ok (.dup, 1) := by decide +kernel
theorem dX5_step_44 : decode cX5_step 44 = .ok (.ldc 112, 2) := by decide +kernel
theorem dX5_step_46 : decode cX5_step 46 = .ok (.invokespecial 114, 3) := by decide +kernel
theorem dX5_step_49 : decode cX5_step 49 = .ok (.athrow, 1) := by decide +kernel
theorem dX5_step_50 : decode cX5_step 50 = .ok (.aload_n 0, 1) := by decide +kernel
theorem dX5_step_51 : decode cX5_step 51 = .ok (.getfield 12, 3) := by decide +kernel
theorem dX5_step_54 : decode cX5_step 54 = .ok (.iload_n 1, 1) := by decide +kernel
theorem dX5_step_55 : decode cX5_step 55 = .ok (.iload_n 2, 1) := by decide +kernel
theorem dX5_step_56 : decode cX5_step 56 = .ok (.iload_n 3, 1) := by decide +kernel
theorem dX5_step_57 : decode cX5_step 57 = .ok (.iload 4, 2) := by decide +kernel
theorem dX5_step_59 : decode cX5_step 59 = .ok (.invokevirtual 115, 3) := by decide +kernel
theorem dX5_step_62 : decode cX5_step 62 = .ok (.aload_n 0, 1) := by decide +kernel
theorem dX5_step_63 : decode cX5_step 63 = .ok (.getfield 12, 3) := by decide +kernel
theorem dX5_step_66 : decode cX5_step 66 = .ok (.iload_n 1, 1) := by decide +kernel
theorem dX5_step_67 : decode cX5_step 67 = .ok (.invokevirtual 106, 3) := by decide +kernel
theorem dX5_step_70 : decode cX5_step 70 = .ok (.ireturn, 1) := by decide +kernel
theorem dX5_clear_0 : decode cX5_clear 0 = .ok (.iload_n 1, 1) := by decide +kernel
theorem dX5_clear_1 : decode cX5_clear 1 = .ok (.invokestatic 91, 3) := by decide +kernel
theorem dX5_clear_4 : decode cX5_clear 4 = .ok (.ifCond .ne 13, 3) := by decide +kernel
theorem dX5_clear_7 : decode cX5_clear 7 = .ok (.new 99, 3) := by decide +kernel
theorem dX5_clear_10 : decode cX5_clear 10 = .ok (.dup, 1) := by decide +kernel
theorem dX5_clear_11 : decode cX5_clear 11 = .ok (.ldc 119, 2) := by decide +kernel
theorem dX5_clear_13 : decode cX5_clear 13 = .ok (.invokespecial 103, 3) := by decide +kernel
theorem dX5_clear_16 : decode cX5_clear 16 = .ok (.athrow, 1) := by decide +kernel
theorem dX5_clear_17 : decode cX5_clear 17 = .ok (.aload_n 0, 1) := by decide +kernel
theorem dX5_clear_18 : decode cX5_clear 18 = .ok (.getfield 12, 3) := by decide +kernel
theorem dX5_clear_21 : decode cX5_clear 21 = .ok (.iload_n 1, 1) := by decide +kernel
theorem dX5_clear_22 : decode cX5_clear 22 = .ok (.invokevirtual 121, 3) := by decide +kernel
theorem dX5_clear_25 : decode cX5_clear 25 = .ok (.return_, 1) := by decide +kernel
theorem dX5_post_0 : decode cX5_post 0 = .ok (.iload_n 1, 1) := by decide +kernel
theorem dX5_post_1 : decode cX5_post 1 = .ok (.invokestatic 124, 3) := by decide +kernel
theorem dX5_post_4 : decode cX5_post 4 = .ok (.ifCond .eq 10, 3) := by decide +kernel
theorem dX5_post_7 : decode cX5_post 7 = .ok (.iload_n 2, 1) := by decide +kernel
theorem dX5_post_8 : decode cX5_post 8 = .ok (.invokestatic 91, 3) := by decide +kernel
theorem dX5_post_11 : decode cX5_post 11 = .ok (.ifCond .ne 13, 3) := by decide +kernel
theorem dX5_post_14 : decode cX5_post 14 = .ok (.new 99, 3) := by decide +kernel
theorem dX5_post_17 : decode cX5_post 17 = .ok (.dup, 1) := by decide +kernel
theorem dX5_post_18 : decode cX5_post 18 = .ok (.ldc 127, 2) := by decide +kernel
theorem dX5_post_20 : decode cX5_post 20 = .ok (.invokespecial 103, 3) := by decide +kernel
theorem dX5_post_23 : decode cX5_post 23 = .ok (.athrow, 1) := by decide +kernel
theorem dX5_post_24 : decode cX5_post 24 = .ok (.aload_n 0, 1) := by decide +kernel
theorem dX5_post_25 : decode cX5_post 25 = .ok (.invokevirtual 129, 3) := by decide +kernel
theorem dX5_post_28 : decode cX5_post 28 = .ok (.bipush 40, 2) := by decide +kernel
theorem dX5_post_30 : decode cX5_post 30 = .ok (.if_icmp .lt 13, 3) := by decide +kernel
theorem dX5_post_33 : decode cX5_post 33 = .ok (.new 110, 3) := by decide +kernel
theorem dX5_post_36 : decode cX5_post 36 = .ok (.dup, 1) := by decide +kernel
theorem dX5_post_37 : decode cX5_post 37 = .ok (.ldc 133, 2) := by decide +kernel
theorem dX5_post_39 : decode cX5_post 39 = .ok (.invokespecial 114, 3) := by decide +kernel
theorem dX5_post_42 : decode cX5_post 42 = .ok (.athrow, 1) := by decide +kernel
theorem dX5_post_43 : decode cX5_post 43 = .ok (.aload_n 0, 1) := by decide +kernel
theorem dX5_post_44 : decode cX5_post 44 = .ok (.getfield 25, 3) := by decide +kernel
theorem dX5_post_47 : decode cX5_post 47 = .ok (.iload_n 1, 1) := by decide +kernel
theorem dX5_post_48 : decode cX5_post 48 = .ok (.aaload, 1) := by decide +kernel
theorem dX5_post_49 : decode cX5_post 49 = .ok (.iconst 0, 1) := by decide +kernel
theorem dX5_post_50 : decode cX5_post 50 = .ok (.iload_n 2, 1) := by decide +kernel
theorem dX5_post_51 : decode cX5_post 51 = .ok (.iload_n 3, 1) := by decide +kernel
theorem dX5_post_52 : decode cX5_post 52 = .ok (.invokevirtual 135, 3) := by decide +kernel
theorem dX5_post_55 : decode cX5_post 55 = .ok (.aload_n 0, 1) := by decide +kernel
theorem dX5_post_56 : decode cX5_post 56 = .ok (.invokevirtual 129, 3) := by decide +kernel
theorem dX5_post_59 : decode cX5_post 59 = .ok (.ireturn, 1) := by decide +kernel
theorem dX5_prefer_0 : decode cX5_prefer 0 = .ok (.iload_n 1, 1) := by decide +kernel
theorem dX5_prefer_1 : decode cX5_prefer 1 = .ok (.invokestatic 124, 3) := by decide +kernel
theorem dX5_prefer_4 : decode cX5_prefer 4 = .ok (.ifCond .ne 13, 3) := by decide +kernel
theorem dX5_prefer_7 : decode cX5_prefer 7 = .ok (.new 99, 3) := by decide +kernel
theorem dX5_prefer_10 : decode cX5_prefer 10 = .ok (.dup, 1) := by decide +kernel
theorem dX5_prefer_11 : decode cX5_prefer 11 = .ok (.ldc 139, 2) := by decide +kernel
theorem dX5_prefer_13 : decode cX5_prefer 13 = .ok (.invokespecial 103, 3) := by decide +kernel
theorem dX5_prefer_16 : decode cX5_prefer 16 = .ok (.athrow, 1) := by decide +kernel
theorem dX5_prefer_17 : decode cX5_prefer 17 = .ok (.aload_n 0, 1) := by decide +kernel
theorem dX5_prefer_18 : decode cX5_prefer 18 = .ok (.iload_n 1, 1) := by decide +kernel
theorem dX5_prefer_19 : decode cX5_prefer 19 = .ok (.putfield 62, 3) := by decide +kernel
theorem dX5_prefer_22 : decode cX5_prefer 22 = .ok (.return_, 1) := by decide +kernel
theorem dX5_turn_0 : decode cX5_turn 0 = .ok (.aload_n 0, 1) := by decide +kernel
theorem dX5_turn_1 : decode cX5_turn 1 = .ok (.iconst 0, 1) := by decide +kernel
theorem dX5_turn_2 : decode cX5_turn 2 = .ok (.putfield 73, 3) := by decide +kernel
theorem dX5_turn_5 : decode cX5_turn 5 = .ok (.aload_n 0, 1) := by decide +kernel
theorem dX5_turn_6 : decode cX5_turn 6 = .ok (.invokevirtual 141, 3) := by decide +kernel
theorem dX5_turn_9 : decode cX5_turn 9 = .ok (.ifCond .eq 21, 3) := by decide +kernel
theorem dX5_turn_12 : decode cX5_turn 12 = .ok (.aload_n 0, 1) := by decide +kernel
theorem dX5_turn_13 : decode cX5_turn 13 = .ok (.invokevirtual 145, 3) := by decide +kernel
theorem dX5_turn_16 : decode cX5_turn 16 = .ok (.ifCond .eq 14, 3) := by decide +kernel
theorem dX5_turn_19 : decode cX5_turn 19 = .ok (.aload_n 0, 1) := by decide +kernel
theorem dX5_turn_20 : decode cX5_turn 20 = .ok (.invokevirtual 141, 3) := by decide +kernel
theorem dX5_turn_23 : decode cX5_turn 23 = .ok (.ifCond .eq 7, 3) := by decide +kernel
theorem dX5_turn_26 : decode cX5_turn 26 = .ok (.iconst 1, 1) := by decide +kernel
theorem dX5_turn_27 : decode cX5_turn 27 = .ok (.goto 4, 3) := by decide +kernel
theorem dX5_turn_30 : decode cX5_turn 30 = .ok (.iconst 0, 1) := by decide +kernel
theorem dX5_turn_31 : decode cX5_turn 31 = .ok (.istore_n 1, 1) := by decide +kernel
theorem dX5_turn_32 : decode cX5_turn 32 = .ok (.iload_n 1, 1) := by decide +kernel
theorem dX5_turn_33 : decode cX5_turn 33 = .ok (.ifCond .eq 20, 3) := by decide +kernel
theorem dX5_turn_36 : decode cX5_turn 36 = .ok (.aload_n 0, 1) := by decide +kernel
theorem dX5_turn_37 : decode cX5_turn 37 = .ok (.getfield 69, 3) := by decide +kernel
theorem dX5_turn_40 : decode cX5_turn 40 = .ok (.ifCond .eq 13, 3) := by decide +kernel
theorem dX5_turn_43 : decode cX5_turn 43 = .ok (.aload_n 0, 1) := by decide +kernel
theorem dX5_turn_44 : decode cX5_turn 44 = .ok (.getfield 33, 3) := by decide +kernel
theorem dX5_turn_47 : decode cX5_turn 47 = .ok (.invokevirtual 148, 3) := by decide +kernel
theorem dX5_turn_50 : decode cX5_turn 50 = .ok (.goto 4, 3) := by decide +kernel
theorem dX5_turn_53 : decode cX5_turn 53 = .ok (.iconst 0, 1) := by decide +kernel
theorem dX5_turn_54 : decode cX5_turn 54 = .ok (.istore_n 2, 1) := by decide +kernel
theorem dX5_turn_55 : decode cX5_turn 55 = .ok (.iload_n 1, 1) := by decide +kernel
theorem dX5_turn_56 : decode cX5_turn 56 = .ok (.ifCond .eq 12, 3) := by decide +kernel
theorem dX5_turn_59 : decode cX5_turn 59 = .ok (.iload_n 2, 1) := by decide +kernel
theorem dX5_turn_60 : decode cX5_turn 60 = .ok (.ifCond .ne 8, 3) := by decide +kernel
theorem dX5_turn_63 : decode cX5_turn 63 = .ok (.aload_n 0, 1) := by decide +kernel
theorem dX5_turn_64 : decode cX5_turn 64 = .ok (.iconst 0, 1) := by decide +kernel
theorem dX5_turn_65 : decode cX5_turn 65 = .ok (.putfield 69, 3) := by decide +kernel
theorem dX5_turn_68 : decode cX5_turn 68 = .ok (.iload_n 2, 1) := by decide +kernel
theorem dX5_turn_69 : decode cX5_turn 69 = .ok (.istore_n 3, 1) := by decide +kernel
theorem dX5_turn_70 : decode cX5_turn 70 = .ok (.iload_n 1, 1) := by decide +kernel
theorem dX5_turn_71 : decode cX5_turn 71 = .ok (.ifCond .eq 43, 3) := by decide +kernel
theorem dX5_turn_74 : decode cX5_turn 74 = .ok (.iload_n 3, 1) := by decide +kernel
theorem dX5_turn_75 : decode cX5_turn 75 = .ok (.ifCond .le 39, 3) := by decide +kernel
theorem dX5_turn_78 : decode cX5_turn 78 = .ok (.aload_n 0, 1) := by decide +kernel
theorem dX5_turn_79 : decode cX5_turn 79 = .ok (.iload_n 3, 1) := by decide +kernel
theorem dX5_turn_80 : decode cX5_turn 80 = .ok (.iconst 1, 1) := by decide +kernel
theorem dX5_turn_81 : decode cX5_turn 81 = .ok (.if_icmp .ne 7, 3) := by decide +kernel
theorem dX5_turn_84 : decode cX5_turn 84 = .ok (.iconst 1, 1) := by decide +kernel
theorem dX5_turn_85 : decode cX5_turn 85 = .ok (.goto 4, 3) := by decide +kernel
theorem dX5_turn_88 : decode cX5_turn 88 = .ok (.iconst 0, 1) := by decide +kernel
theorem dX5_turn_89 : decode cX5_turn 89 = .ok (.invokevirtual 151, 3) := by decide +kernel
theorem dX5_turn_92 : decode cX5_turn 92 = .ok (.ifCond .eq 14, 3) := by decide +kernel
theorem dX5_turn_95 : decode cX5_turn 95 = .ok (.aload_n 0, 1) := by decide +kernel
theorem dX5_turn_96 : decode cX5_turn 96 = .ok (.invokevirtual 141, 3) := by decide +kernel
theorem dX5_turn_99 : decode cX5_turn 99 = .ok (.ifCond .eq 7, 3) := by decide +kernel
theorem dX5_turn_102 : decode cX5_turn 102 = .ok (.iconst 1, 1) := by decide +kernel
theorem dX5_turn_103 : decode cX5_turn 103 = .ok (.goto 4, 3) := by decide +kernel
theorem dX5_turn_106 : decode cX5_turn 106 = .ok (.iconst 0, 1) := by decide +kernel
theorem dX5_turn_107 : decode cX5_turn 107 = .ok (.istore_n 1, 1) := by decide +kernel
theorem dX5_turn_108 : decode cX5_turn 108 = .ok (.iinc 3 (-1), 3) := by decide +kernel
theorem dX5_turn_111 : decode cX5_turn 111 = .ok (.goto (-41), 3) := by decide +kernel
theorem dX5_turn_114 : decode cX5_turn 114 = .ok (.aload_n 0, 1) := by decide +kernel
theorem dX5_turn_115 : decode cX5_turn 115 = .ok (.getfield 73, 3) := by decide +kernel
theorem dX5_turn_118 : decode cX5_turn 118 = .ok (.ireturn, 1) := by decide +kernel
theorem dX5_advance_0 : decode cX5_advance 0 = .ok (.iload_n 1, 1) := by decide +kernel
theorem dX5_advance_1 : decode cX5_advance 1 = .ok (.iconst 1, 1) := by decide +kernel
theorem dX5_advance_2 : decode cX5_advance 2 = .ok (.bipush 100, 2) := by decide +kernel
theorem dX5_advance_4 : decode cX5_advance 4 = .ok (.invokestatic 155, 3) := by decide +kernel
theorem dX5_advance_7 : decode cX5_advance 7 = .ok (.ifCond .ne 13, 3) := by decide +kernel
theorem dX5_advance_10 : decode cX5_advance 10 = .ok (.new 99, 3) := by decide +kernel
theorem dX5_advance_13 : decode cX5_advance 13 = .ok (.dup, 1) := by decide +kernel
theorem dX5_advance_14 : decode cX5_advance 14 = .ok (.ldc 158, 2) := by decide +kernel
theorem dX5_advance_16 : decode cX5_advance 16 = .ok (.invokespecial 103, 3) := by decide +kernel
theorem dX5_advance_19 : decode cX5_advance 19 = .ok (.athrow, 1) := by decide +kernel
theorem dX5_advance_20 : decode cX5_advance 20 = .ok (.aload_n 0, 1) := by decide +kernel
theorem dX5_advance_21 : decode cX5_advance 21 = .ok (.getfield 66, 3) := by decide +kernel
theorem dX5_advance_24 : decode cX5_advance 24 = .ok (.istore_n 2, 1) := by decide +kernel
theorem dX5_advance_25 : decode cX5_advance 25 = .ok (.aload_n 0, 1) := by decide +kernel
theorem dX5_advance_26 : decode cX5_advance 26 = .ok (.dup, 1) := by decide +kernel
theorem dX5_advance_27 : decode cX5_advance 27 = .ok (.getfield 66, 3) := by decide +kernel
theorem dX5_advance_30 : decode cX5_advance 30 = .ok (.iload_n 1, 1) := by decide +kernel
theorem dX5_advance_31 : decode cX5_advance 31 = .ok (.iadd, 1) := by decide +kernel
theorem dX5_advance_32 : decode cX5_advance 32 = .ok (.putfield 66, 3) := by decide +kernel
theorem dX5_advance_35 : decode cX5_advance 35 = .ok (.aload_n 0, 1) := by decide +kernel
theorem dX5_advance_36 : decode cX5_advance 36 = .ok (.getfield 66, 3) := by decide +kernel
theorem dX5_advance_39 : decode cX5_advance 39 = .ok (.bipush 16, 2) := by decide +kernel
theorem dX5_advance_41 : decode cX5_advance 41 = .ok (.idiv, 1) := by decide +kernel
theorem dX5_advance_42 : decode cX5_advance 42 = .ok (.iload_n 2, 1) := by decide +kernel
theorem dX5_advance_43 : decode cX5_advance 43 = .ok (.bipush 16, 2) := by decide +kernel
theorem dX5_advance_45 : decode cX5_advance 45 = .ok (.idiv, 1) := by decide +kernel
theorem dX5_advance_46 : decode cX5_advance 46 = .ok (.if_icmp .eq 8, 3) := by decide +kernel
theorem dX5_advance_49 : decode cX5_advance 49 = .ok (.aload_n 0, 1) := by decide +kernel
theorem dX5_advance_50 : decode cX5_advance 50 = .ok (.iconst 1, 1) := by decide +kernel
theorem dX5_advance_51 : decode cX5_advance 51 = .ok (.putfield 69, 3) := by decide +kernel
theorem dX5_advance_54 : decode cX5_advance 54 = .ok (.aload_n 0, 1) := by decide +kernel
theorem dX5_advance_55 : decode cX5_advance 55 = .ok (.getfield 58, 3) := by decide +kernel
theorem dX5_advance_58 : decode cX5_advance 58 = .ok (.aload_n 0, 1) := by decide +kernel
theorem dX5_advance_59 : decode cX5_advance 59 = .ok (.getfield 66, 3) := by decide +kernel
theorem dX5_advance_62 : decode cX5_advance 62 = .ok (.aload_n 0, 1) := by decide +kernel
theorem dX5_advance_63 : decode cX5_advance 63 = .ok (.getfield 25, 3) := by decide +kernel
theorem dX5_advance_66 : decode cX5_advance 66 = .ok (.iconst 1, 1) := by decide +kernel
theorem dX5_advance_67 : decode cX5_advance 67 = .ok (.aaload, 1) := by decide +kernel
theorem dX5_advance_68 : decode cX5_advance 68 = .ok (.invokevirtual 160, 3) := by decide +kernel
theorem dX5_advance_71 : decode cX5_advance 71 = .ok (.aload_n 0, 1) := by decide +kernel
theorem dX5_advance_72 : decode cX5_advance 72 = .ok (.getfield 66, 3) := by decide +kernel
theorem dX5_advance_75 : decode cX5_advance 75 = .ok (.ireturn, 1) := by decide +kernel
theorem dX5_register_0 : decode cX5_register 0 = .ok (.iload_n 1, 1) := by decide +kernel
theorem dX5_register_1 : decode cX5_register 1 = .ok (.invokestatic 164, 3) := by decide +kernel
theorem dX5_register_4 : decode cX5_register 4 = .ok (.ifCond .ne 13, 3) := by decide +kernel
theorem dX5_register_7 : decode cX5_register 7 = .ok (.new 167, 3) := by decide +kernel
theorem dX5_register_10 : decode cX5_register 10 = .ok (.dup, 1) := by decide +kernel
theorem dX5_register_11 : decode cX5_register 11 = .ok (.ldc 169, 2) := by decide +kernel
theorem dX5_register_13 : decode cX5_register 13 = .ok (.invokespecial 171, 3) := by decide +kernel
theorem dX5_register_16 : decode cX5_register 16 = .ok (.athrow, 1) := by decide +kernel
theorem dX5_register_17 : decode cX5_register 17 = .ok (.aload_n 0, 1) := by decide +kernel
theorem dX5_register_18 : decode cX5_register 18 = .ok (.getfield 16, 3) := by decide +kernel
theorem dX5_register_21 : decode cX5_register 21 = .ok (.iload_n 1, 1) := by decide +kernel
theorem dX5_register_22 : decode cX5_register 22 = .ok (.iaload, 1) := by decide +kernel
theorem dX5_register_23 : decode cX5_register 23 = .ok (.ireturn, 1) := by decide +kernel
theorem dX5_state_0 : decode cX5_state 0 = .ok (.aload_n 0, 1) := by decide +kernel
theorem dX5_state_1 : decode cX5_state 1 = .ok (.getfield 51, 3) := by decide +kernel
theorem dX5_state_4 : decode cX5_state 4 = .ok (.iload_n 1, 1) := by decide +kernel
theorem dX5_state_5 : decode cX5_state 5 = .ok (.invokevirtual 172, 3) := by decide +kernel
theorem dX5_state_8 : decode cX5_state 8 = .ok (.ifCond .ne 13, 3) := by decide +kernel
theorem dX5_state_11 : decode cX5_state 11 = .ok (.new 167, 3) := by decide +kernel
theorem dX5_state_14 : decode cX5_state 14 = .ok (.dup, 1) := by decide +kernel
theorem dX5_state_15 : decode cX5_state 15 = .ok (.ldc 175, 2) := by decide +kernel
theorem dX5_state_17 : decode cX5_state 17 = .ok (.invokespecial 171, 3) := by decide +kernel
theorem dX5_state_20 : decode cX5_state 20 = .ok (.athrow, 1) := by decide +kernel
theorem dX5_state_21 : decode cX5_state 21 = .ok (.aload_n 0, 1) := by decide +kernel
theorem dX5_state_22 : decode cX5_state 22 = .ok (.getfield 51, 3) := by decide +kernel
theorem dX5_state_25 : decode cX5_state 25 = .ok (.iload_n 1, 1) := by decide +kernel
theorem dX5_state_26 : decode cX5_state 26 = .ok (.invokevirtual 177, 3) := by decide +kernel
theorem dX5_state_29 : decode cX5_state 29 = .ok (.ireturn, 1) := by decide +kernel
theorem dX5_value_0 : decode cX5_value 0 = .ok (.aload_n 0, 1) := by decide +kernel
theorem dX5_value_1 : decode cX5_value 1 = .ok (.getfield 51, 3) := by decide +kernel
theorem dX5_value_4 : decode cX5_value 4 = .ok (.iload_n 1, 1) := by decide +kernel
theorem dX5_value_5 : decode cX5_value 5 = .ok (.invokevirtual 172, 3) := by decide +kernel
theorem dX5_value_8 : decode cX5_value 8 = .ok (.ifCond .ne 13, 3) := by decide +kernel
theorem dX5_value_11 : decode cX5_value 11 = .ok (.new 167, 3) := by decide +kernel
theorem dX5_value_14 : decode cX5_value 14 = .ok (.dup, 1) := by decide +kernel
theorem dX5_value_15 : decode cX5_value 15 = .ok (.ldc 175, 2) := by decide +kernel
theorem dX5_value_17 : decode cX5_value 17 = .ok (.invokespecial 171, 3) := by decide +kernel
theorem dX5_value_20 : decode cX5_value 20 = .ok (.athrow, 1) := by decide +kernel
theorem dX5_value_21 : decode cX5_value 21 = .ok (.aload_n 0, 1) := by decide +kernel
theorem dX5_value_22 : decode cX5_value 22 = .ok (.getfield 51, 3) := by decide +kernel
theorem dX5_value_25 : decode cX5_value 25 = .ok (.iload_n 1, 1) := by decide +kernel
theorem dX5_value_26 : decode cX5_value 26 = .ok (.invokevirtual 180, 3) := by decide +kernel
theorem dX5_value_29 : decode cX5_value 29 = .ok (.ifCond .ne 13, 3) := by decide +kernel
theorem dX5_value_32 : decode cX5_value 32 = .ok (.new 110, 3) := by decide +kernel
theorem dX5_value_35 : decode cX5_value 35 = .ok (.dup, 1) := by decide +kernel
theorem dX5_value_36 : decode cX5_value 36 = .ok (.ldc 183, 2) := by decide +kernel
theorem dX5_value_38 : decode cX5_value 38 = .ok (.invokespecial 114, 3) := by decide +kernel
theorem dX5_value_41 : decode cX5_value 41 = .ok (.athrow, 1) := by decide +kernel
theorem dX5_value_42 : decode cX5_value 42 = .ok (.aload_n 0, 1) := by decide +kernel
theorem dX5_value_43 : decode cX5_value 43 = .ok (.getfield 51, 3) := by decide +kernel
theorem dX5_value_46 : decode cX5_value 46 = .ok (.iload_n 1, 1) := by decide +kernel
theorem dX5_value_47 : decode cX5_value 47 = .ok (.invokevirtual 185, 3) := by decide +kernel
theorem dX5_value_50 : decode cX5_value 50 = .ok (.ireturn, 1) := by decide +kernel
theorem dX5_count_0 : decode cX5_count 0 = .ok (.iload_n 1, 1) := by decide +kernel
theorem dX5_count_1 : decode cX5_count 1 = .ok (.tableswitch 96 0 6 #[43, 51, 56, 64, 72, 80, 88], 43) := by decide +kernel
theorem dX5_count_44 : decode cX5_count 44 = .ok (.aload_n 0, 1) := by decide +kernel
theorem dX5_count_45 : decode cX5_count 45 = .ok (.getfield 51, 3) := by decide +kernel
theorem dX5_count_48 : decode cX5_count 48 = .ok (.invokevirtual 188, 3) := by decide +kernel
theorem dX5_count_51 : decode cX5_count 51 = .ok (.ireturn, 1) := by decide +kernel
theorem dX5_count_52 : decode cX5_count 52 = .ok (.aload_n 0, 1) := by decide +kernel
theorem dX5_count_53 : decode cX5_count 53 = .ok (.invokevirtual 129, 3) := by decide +kernel
theorem dX5_count_56 : decode cX5_count 56 = .ok (.ireturn, 1) := by decide +kernel
theorem dX5_count_57 : decode cX5_count 57 = .ok (.aload_n 0, 1) := by decide +kernel
theorem dX5_count_58 : decode cX5_count 58 = .ok (.getfield 29, 3) := by decide +kernel
theorem dX5_count_61 : decode cX5_count 61 = .ok (.invokevirtual 148, 3) := by decide +kernel
theorem dX5_count_64 : decode cX5_count 64 = .ok (.ireturn, 1) := by decide +kernel
theorem dX5_count_65 : decode cX5_count 65 = .ok (.aload_n 0, 1) := by decide +kernel
theorem dX5_count_66 : decode cX5_count 66 = .ok (.getfield 58, 3) := by decide +kernel
theorem dX5_count_69 : decode cX5_count 69 = .ok (.invokevirtual 189, 3) := by decide +kernel
theorem dX5_count_72 : decode cX5_count 72 = .ok (.ireturn, 1) := by decide +kernel
theorem dX5_count_73 : decode cX5_count 73 = .ok (.aload_n 0, 1) := by decide +kernel
theorem dX5_count_74 : decode cX5_count 74 = .ok (.getfield 33, 3) := by decide +kernel
theorem dX5_count_77 : decode cX5_count 77 = .ok (.invokevirtual 148, 3) := by decide +kernel
theorem dX5_count_80 : decode cX5_count 80 = .ok (.ireturn, 1) := by decide +kernel
theorem dX5_count_81 : decode cX5_count 81 = .ok (.aload_n 0, 1) := by decide +kernel
theorem dX5_count_82 : decode cX5_count 82 = .ok (.getfield 39, 3) := by decide +kernel
theorem dX5_count_85 : decode cX5_count 85 = .ok (.invokevirtual 190, 3) := by decide +kernel
theorem dX5_count_88 : decode cX5_count 88 = .ok (.ireturn, 1) := by decide +kernel
theorem dX5_count_89 : decode cX5_count 89 = .ok (.aload_n 0, 1) := by decide +kernel
theorem dX5_count_90 : decode cX5_count 90 = .ok (.getfield 43, 3) := by decide +kernel
theorem dX5_count_93 : decode cX5_count 93 = .ok (.invokevirtual 190, 3) := by decide +kernel
theorem dX5_count_96 : decode cX5_count 96 = .ok (.ireturn, 1) := by decide +kernel
theorem dX5_count_97 : decode cX5_count 97 = .ok (.new 99, 3) := by decide +kernel
theorem dX5_count_100 : decode cX5_count 100 = .ok (.dup, 1) := by decide +kernel
theorem dX5_count_101 : decode cX5_count 101 = .ok (.ldc 191, 2) := by decide +kernel
theorem dX5_count_103 : decode cX5_count 103 = .ok (.invokespecial 103, 3) := by decide +kernel
theorem dX5_count_106 : decode cX5_count 106 = .ok (.athrow, 1) := by decide +kernel
theorem dX5_logged_0 : decode cX5_logged 0 = .ok (.aload_n 0, 1) := by decide +kernel
theorem dX5_logged_1 : decode cX5_logged 1 = .ok (.getfield 39, 3) := by decide +kernel
theorem dX5_logged_4 : decode cX5_logged 4 = .ok (.iload_n 1, 1) := by decide +kernel
theorem dX5_logged_5 : decode cX5_logged 5 = .ok (.invokevirtual 193, 3) := by decide +kernel
theorem dX5_logged_8 : decode cX5_logged 8 = .ok (.ifCond .ne 13, 3) := by decide +kernel
theorem dX5_logged_11 : decode cX5_logged 11 = .ok (.new 167, 3) := by decide +kernel
theorem dX5_logged_14 : decode cX5_logged 14 = .ok (.dup, 1) := by decide +kernel
theorem dX5_logged_15 : decode cX5_logged 15 = .ok (.ldc 194, 2) := by decide +kernel
theorem dX5_logged_17 : decode cX5_logged 17 = .ok (.invokespecial 171, 3) := by decide +kernel
theorem dX5_logged_20 : decode cX5_logged 20 = .ok (.athrow, 1) := by decide +kernel
theorem dX5_logged_21 : decode cX5_logged 21 = .ok (.aload_n 0, 1) := by decide +kernel
theorem dX5_logged_22 : decode cX5_logged 22 = .ok (.getfield 39, 3) := by decide +kernel
theorem dX5_logged_25 : decode cX5_logged 25 = .ok (.iload_n 1, 1) := by decide +kernel
theorem dX5_logged_26 : decode cX5_logged 26 = .ok (.invokevirtual 196, 3) := by decide +kernel
theorem dX5_logged_29 : decode cX5_logged 29 = .ok (.ireturn, 1) := by decide +kernel
theorem dX5_reported_0 : decode cX5_reported 0 = .ok (.aload_n 0, 1) := by decide +kernel
theorem dX5_reported_1 : decode cX5_reported 1 = .ok (.getfield 43, 3) := by decide +kernel
theorem dX5_reported_4 : decode cX5_reported 4 = .ok (.iload_n 1, 1) := by decide +kernel
theorem dX5_reported_5 : decode cX5_reported 5 = .ok (.invokevirtual 193, 3) := by decide +kernel
theorem dX5_reported_8 : decode cX5_reported 8 = .ok (.ifCond .ne 13, 3) := by decide +kernel
theorem dX5_reported_11 : decode cX5_reported 11 = .ok (.new 167, 3) := by decide +kernel
theorem dX5_reported_14 : decode cX5_reported 14 = .ok (.dup, 1) := by decide +kernel
theorem dX5_reported_15 : decode cX5_reported 15 = .ok (.ldc 199, 2) := by decide +kernel
theorem dX5_reported_17 : decode cX5_reported 17 = .ok (.invokespecial 171, 3) := by decide +kernel
theorem dX5_reported_20 : decode cX5_reported 20 = .ok (.athrow, 1) := by decide +kernel
theorem dX5_reported_21 : decode cX5_reported 21 = .ok (.aload_n 0, 1) := by decide +kernel
theorem dX5_reported_22 : decode cX5_reported 22 = .ok (.getfield 43, 3) := by decide +kernel
theorem dX5_reported_25 : decode cX5_reported 25 = .ok (.iload_n 1, 1) := by decide +kernel
theorem dX5_reported_26 : decode cX5_reported 26 = .ok (.invokevirtual 196, 3) := by decide +kernel
theorem dX5_reported_29 : decode cX5_reported 29 = .ok (.ireturn, 1) := by decide +kernel
theorem dX5_due_0 : decode cX5_due 0 = .ok (.aload_n 0, 1) := by decide +kernel
theorem dX5_due_1 : decode cX5_due 1 = .ok (.getfield 58, 3) := by decide +kernel
theorem dX5_due_4 : decode cX5_due 4 = .ok (.iload_n 1, 1) := by decide +kernel
theorem dX5_due_5 : decode cX5_due 5 = .ok (.invokevirtual 201, 3) := by decide +kernel
theorem dX5_due_8 : decode cX5_due 8 = .ok (.ireturn, 1) := by decide +kernel
theorem dX5_time_0 : decode cX5_time 0 = .ok (.aload_n 0, 1) := by decide +kernel
theorem dX5_time_1 : decode cX5_time 1 = .ok (.getfield 66, 3) := by decide +kernel
theorem dX5_time_4 : decode cX5_time 4 = .ok (.ireturn, 1) := by decide +kernel
theorem dX5_isWithin_0 : decode cX5_isWithin 0 = .ok (.iload_n 0, 1) := by decide +kernel
theorem dX5_isWithin_1 : decode cX5_isWithin 1 = .ok (.iload_n 1, 1) := by decide +kernel
theorem dX5_isWithin_2 : decode cX5_isWithin 2 = .ok (.if_icmp .lt 12, 3) := by decide +kernel
theorem dX5_isWithin_5 : decode cX5_isWithin 5 = .ok (.iload_n 0, 1) := by decide +kernel
theorem dX5_isWithin_6 : decode cX5_isWithin 6 = .ok (.iload_n 2, 1) := by decide +kernel
theorem dX5_isWithin_7 : decode cX5_isWithin 7 = .ok (.if_icmp .gt 7, 3) := by decide +kernel
theorem dX5_isWithin_10 : decode cX5_isWithin 10 = .ok (.iconst 1, 1) := by decide +kernel
theorem dX5_isWithin_11 : decode cX5_isWithin 11 = .ok (.goto 4, 3) := by decide +kernel
theorem dX5_isWithin_14 : decode cX5_isWithin 14 = .ok (.iconst 0, 1) := by decide +kernel
theorem dX5_isWithin_15 : decode cX5_isWithin 15 = .ok (.ireturn, 1) := by decide +kernel
theorem dX5_isFunction_0 : decode cX5_isFunction 0 = .ok (.iload_n 0, 1) := by decide +kernel
theorem dX5_isFunction_1 : decode cX5_isFunction 1 = .ok (.iconst 0, 1) := by decide +kernel
theorem dX5_isFunction_2 : decode cX5_isFunction 2 = .ok (.bipush 9, 2) := by decide +kernel
theorem dX5_isFunction_4 : decode cX5_isFunction 4 = .ok (.invokestatic 155, 3) := by decide +kernel
theorem dX5_isFunction_7 : decode cX5_isFunction 7 = .ok (.ireturn, 1) := by decide +kernel
theorem dX5_isRegister_0 : decode cX5_isRegister 0 = .ok (.iload_n 0, 1) := by decide +kernel
theorem dX5_isRegister_1 : decode cX5_isRegister 1 = .ok (.iconst 0, 1) := by decide +kernel
theorem dX5_isRegister_2 : decode cX5_isRegister 2 = .ok (.bipush 7, 2) := by decide +kernel
theorem dX5_isRegister_4 : decode cX5_isRegister 4 = .ok (.invokestatic 155, 3) := by decide +kernel
theorem dX5_isRegister_7 : decode cX5_isRegister 7 = .ok (.ireturn, 1) := by decide +kernel
theorem dX5_isSource_0 : decode cX5_isSource 0 = .ok (.iload_n 0, 1) := by decide +kernel
theorem dX5_isSource_1 : decode cX5_isSource 1 = .ok (.iconst 0, 1) := by decide +kernel
theorem dX5_isSource_2 : decode cX5_isSource 2 = .ok (.iconst 2, 1) := by decide +kernel
theorem dX5_isSource_3 : decode cX5_isSource 3 = .ok (.invokestatic 155, 3) := by decide +kernel
theorem dX5_isSource_6 : decode cX5_isSource 6 = .ok (.ireturn, 1) := by decide +kernel
theorem dX5_isNumber_0 : decode cX5_isNumber 0 = .ok (.iload_n 0, 1) := by decide +kernel
theorem dX5_isNumber_1 : decode cX5_isNumber 1 = .ok (.sipush (-999), 3) := by decide +kernel
theorem dX5_isNumber_4 : decode cX5_isNumber 4 = .ok (.sipush 999, 3) := by decide +kernel
theorem dX5_isNumber_7 : decode cX5_isNumber 7 = .ok (.invokestatic 155, 3) := by decide +kernel
theorem dX5_isNumber_10 : decode cX5_isNumber 10 = .ok (.ireturn, 1) := by decide +kernel
theorem dX5_isChoice_0 : decode cX5_isChoice 0 = .ok (.iload_n 0, 1) := by decide +kernel
theorem dX5_isChoice_1 : decode cX5_isChoice 1 = .ok (.iconst 0, 1) := by decide +kernel
theorem dX5_isChoice_2 : decode cX5_isChoice 2 = .ok (.iconst 1, 1) := by decide +kernel
theorem dX5_isChoice_3 : decode cX5_isChoice 3 = .ok (.invokestatic 155, 3) := by decide +kernel
theorem dX5_isChoice_6 : decode cX5_isChoice 6 = .ok (.ireturn, 1) := by decide +kernel
theorem dX5_isKnown_0 : decode cX5_isKnown 0 = .ok (.iload_n 0, 1) := by decide +kernel
theorem dX5_isKnown_1 : decode cX5_isKnown 1 = .ok (.tableswitch 274 0 15 #[79, 99, 119, 124, 124, 148, 79, 119, 153, 173, 205, 210, 230, 250, 119, 230], 79) := by decide +kernel
theorem dX5_isKnown_80 : decode cX5_isKnown 80 = .ok (.iload_n 1, 1) := by decide +kernel
theorem dX5_isKnown_81 : decode cX5_isKnown 81 = .ok (.invokestatic 204, 3) := by decide +kernel
theorem dX5_isKnown_84 : decode cX5_isKnown 84 = .ok (.ifCond .eq 14, 3) := by decide +kernel
theorem dX5_isKnown_87 : decode cX5_isKnown 87 = .ok (.iload_n 2, 1) := by decide +kernel
theorem dX5_isKnown_88 : decode cX5_isKnown 88 = .ok (.invokestatic 207, 3) := by decide +kernel
theorem dX5_isKnown_91 : decode cX5_isKnown 91 = .ok (.ifCond .eq 7, 3) := by decide +kernel
theorem dX5_isKnown_94 : decode cX5_isKnown 94 = .ok (.iconst 1, 1) := by decide +kernel
theorem dX5_isKnown_95 : decode cX5_isKnown 95 = .ok (.goto 4, 3) := by decide +kernel
theorem dX5_isKnown_98 : decode cX5_isKnown 98 = .ok (.iconst 0, 1) := by decide +kernel
theorem dX5_isKnown_99 : decode cX5_isKnown 99 = .ok (.ireturn, 1) := by decide +kernel
theorem dX5_isKnown_100 : decode cX5_isKnown 100 = .ok (.iload_n 1, 1) := by decide +kernel
theorem dX5_isKnown_101 : decode cX5_isKnown 101 = .ok (.invokestatic 91, 3) := by decide +kernel
theorem dX5_isKnown_104 : decode cX5_isKnown 104 = .ok (.ifCond .eq 14, 3) := by decide +kernel
theorem dX5_isKnown_107 : decode cX5_isKnown 107 = .ok (.iload_n 2, 1) := by decide +kernel
theorem dX5_isKnown_108 : decode cX5_isKnown 108 = .ok (.invokestatic 124, 3) := by decide +kernel
theorem dX5_isKnown_111 : decode cX5_isKnown 111 = .ok (.ifCond .eq 7, 3) := by decide +kernel
theorem dX5_isKnown_114 : decode cX5_isKnown 114 = .ok (.iconst 1, 1) := by decide +kernel
theorem dX5_isKnown_115 : decode cX5_isKnown 115 = .ok (.goto 4, 3) := by decide +kernel
theorem dX5_isKnown_118 : decode cX5_isKnown 118 = .ok (.iconst 0, 1) := by decide +kernel
theorem dX5_isKnown_119 : decode cX5_isKnown 119 = .ok (.ireturn, 1) := by decide +kernel
theorem dX5_isKnown_120 : decode cX5_isKnown 120 = .ok (.iload_n 1, 1) := by decide +kernel
theorem dX5_isKnown_121 : decode cX5_isKnown 121 = .ok (.invokestatic 91, 3) := by decide +kernel
theorem dX5_isKnown_124 : decode cX5_isKnown 124 = .ok (.ireturn, 1) := by decide +kernel
theorem dX5_isKnown_125 : decode cX5_isKnown 125 = .ok (.iload_n 1, 1) := by decide +kernel
theorem dX5_isKnown_126 : decode cX5_isKnown 126 = .ok (.invokestatic 91, 3) := by decide +kernel
theorem dX5_isKnown_129 : decode cX5_isKnown 129 = .ok (.ifCond .eq 18, 3) := by decide +kernel
theorem dX5_isKnown_132 : decode cX5_isKnown 132 = .ok (.iload_n 2, 1) := by decide +kernel
theorem dX5_isKnown_133 : decode cX5_isKnown 133 = .ok (.iconst 0, 1) := by decide +kernel
theorem dX5_isKnown_134 : decode cX5_isKnown 134 = .ok (.sipush 200, 3) := by decide +kernel
theorem dX5_isKnown_137 : decode cX5_isKnown 137 = .ok (.invokestatic 155, 3) := by decide +kernel
theorem dX5_isKnown_140 : decode cX5_isKnown 140 = .ok (.ifCond .eq 7, 3) := by decide +kernel
theorem dX5_isKnown_143 : decode cX5_isKnown 143 = .ok (.iconst 1, 1) := by decide +kernel
theorem dX5_isKnown_144 : decode cX5_isKnown 144 = .ok (.goto 4, 3) := by decide +kernel
theorem dX5_isKnown_147 : decode cX5_isKnown 147 = .ok (.iconst 0, 1) := by decide +kernel
theorem dX5_isKnown_148 : decode cX5_isKnown 148 = .ok (.ireturn, 1) := by decide +kernel
theorem dX5_isKnown_149 : decode cX5_isKnown 149 = .ok (.iload_n 1, 1) := by decide +kernel
theorem dX5_isKnown_150 : decode cX5_isKnown 150 = .ok (.invokestatic 204, 3) := by decide +kernel
theorem dX5_isKnown_153 : decode cX5_isKnown 153 = .ok (.ireturn, 1) := by decide +kernel
theorem dX5_isKnown_154 : decode cX5_isKnown 154 = .ok (.iload_n 1, 1) := by decide +kernel
theorem dX5_isKnown_155 : decode cX5_isKnown 155 = .ok (.invokestatic 91, 3) := by decide +kernel
theorem dX5_isKnown_158 : decode cX5_isKnown 158 = .ok (.ifCond .eq 14, 3) := by decide +kernel
theorem dX5_isKnown_161 : decode cX5_isKnown 161 = .ok (.iload_n 2, 1) := by decide +kernel
theorem dX5_isKnown_162 : decode cX5_isKnown 162 = .ok (.invokestatic 91, 3) := by decide +kernel
theorem dX5_isKnown_165 : decode cX5_isKnown 165 = .ok (.ifCond .eq 7, 3) := by decide +kernel
theorem dX5_isKnown_168 : decode cX5_isKnown 168 = .ok (.iconst 1, 1) := by decide +kernel
theorem dX5_isKnown_169 : decode cX5_isKnown 169 = .ok (.goto 4, 3) := by decide +kernel
theorem dX5_isKnown_172 : decode cX5_isKnown 172 = .ok (.iconst 0, 1) := by decide +kernel
theorem dX5_isKnown_173 : decode cX5_isKnown 173 = .ok (.ireturn, 1) := by decide +kernel
theorem dX5_isKnown_174 : decode cX5_isKnown 174 = .ok (.iload_n 2, 1) := by decide +kernel
theorem dX5_isKnown_175 : decode cX5_isKnown 175 = .ok (.iconst 2, 1) := by decide +kernel
theorem dX5_isKnown_176 : decode cX5_isKnown 176 = .ok (.if_icmp .ne 10, 3) := by decide +kernel
theorem dX5_isKnown_179 : decode cX5_isKnown 179 = .ok (.iload_n 1, 1) := by decide +kernel
theorem dX5_isKnown_180 : decode cX5_isKnown 180 = .ok (.invokestatic 164, 3) := by decide +kernel
theorem dX5_isKnown_183 : decode cX5_isKnown 183 = .ok (.goto 22, 3) := by decide +kernel
theorem dX5_isKnown_186 : decode cX5_isKnown 186 = .ok (.iload_n 1, 1) := by decide +kernel
theorem dX5_isKnown_187 : decode cX5_isKnown 187 = .ok (.invokestatic 204, 3) := by decide +kernel
theorem dX5_isKnown_190 : decode cX5_isKnown 190 = .ok (.ifCond .eq 14, 3) := by decide +kernel
theorem dX5_isKnown_193 : decode cX5_isKnown 193 = .ok (.iload_n 2, 1) := by decide +kernel
theorem dX5_isKnown_194 : decode cX5_isKnown 194 = .ok (.invokestatic 207, 3) := by decide +kernel
theorem dX5_isKnown_197 : decode cX5_isKnown 197 = .ok (.ifCond .eq 7, 3) := by decide +kernel
theorem dX5_isKnown_200 : decode cX5_isKnown 200 = .ok (.iconst 1, 1) := by decide +kernel
theorem dX5_isKnown_201 : decode cX5_isKnown 201 = .ok (.goto 4, 3) := by decide +kernel
theorem dX5_isKnown_204 : decode cX5_isKnown 204 = .ok (.iconst 0, 1) := by decide +kernel
theorem dX5_isKnown_205 : decode cX5_isKnown 205 = .ok (.ireturn, 1) := by decide +kernel
theorem dX5_isKnown_206 : decode cX5_isKnown 206 = .ok (.iload_n 1, 1) := by decide +kernel
theorem dX5_isKnown_207 : decode cX5_isKnown 207 = .ok (.invokestatic 164, 3) := by decide +kernel
theorem dX5_isKnown_210 : decode cX5_isKnown 210 = .ok (.ireturn, 1) := by decide +kernel
theorem dX5_isKnown_211 : decode cX5_isKnown 211 = .ok (.iload_n 1, 1) := by decide +kernel
theorem dX5_isKnown_212 : decode cX5_isKnown 212 = .ok (.invokestatic 164, 3) := by decide +kernel
theorem dX5_isKnown_215 : decode cX5_isKnown 215 = .ok (.ifCond .eq 14, 3) := by decide +kernel
theorem dX5_isKnown_218 : decode cX5_isKnown 218 = .ok (.iload_n 2, 1) := by decide +kernel
theorem dX5_isKnown_219 : decode cX5_isKnown 219 = .ok (.invokestatic 207, 3) := by decide +kernel
theorem dX5_isKnown_222 : decode cX5_isKnown 222 = .ok (.ifCond .eq 7, 3) := by decide +kernel
theorem dX5_isKnown_225 : decode cX5_isKnown 225 = .ok (.iconst 1, 1) := by decide +kernel
theorem dX5_isKnown_226 : decode cX5_isKnown 226 = .ok (.goto 4, 3) := by decide +kernel
theorem dX5_isKnown_229 : decode cX5_isKnown 229 = .ok (.iconst 0, 1) := by decide +kernel
theorem dX5_isKnown_230 : decode cX5_isKnown 230 = .ok (.ireturn, 1) := by decide +kernel
theorem dX5_isKnown_231 : decode cX5_isKnown 231 = .ok (.iload_n 1, 1) := by decide +kernel
theorem dX5_isKnown_232 : decode cX5_isKnown 232 = .ok (.invokestatic 164, 3) := by decide +kernel
theorem dX5_isKnown_235 : decode cX5_isKnown 235 = .ok (.ifCond .eq 14, 3) := by decide +kernel
theorem dX5_isKnown_238 : decode cX5_isKnown 238 = .ok (.iload_n 2, 1) := by decide +kernel
theorem dX5_isKnown_239 : decode cX5_isKnown 239 = .ok (.invokestatic 164, 3) := by decide +kernel
theorem dX5_isKnown_242 : decode cX5_isKnown 242 = .ok (.ifCond .eq 7, 3) := by decide +kernel
theorem dX5_isKnown_245 : decode cX5_isKnown 245 = .ok (.iconst 1, 1) := by decide +kernel
theorem dX5_isKnown_246 : decode cX5_isKnown 246 = .ok (.goto 4, 3) := by decide +kernel
theorem dX5_isKnown_249 : decode cX5_isKnown 249 = .ok (.iconst 0, 1) := by decide +kernel
theorem dX5_isKnown_250 : decode cX5_isKnown 250 = .ok (.ireturn, 1) := by decide +kernel
theorem dX5_isKnown_251 : decode cX5_isKnown 251 = .ok (.iload_n 1, 1) := by decide +kernel
theorem dX5_isKnown_252 : decode cX5_isKnown 252 = .ok (.invokestatic 164, 3) := by decide +kernel
theorem dX5_isKnown_255 : decode cX5_isKnown 255 = .ok (.ifCond .eq 18, 3) := by decide +kernel
theorem dX5_isKnown_258 : decode cX5_isKnown 258 = .ok (.iload_n 2, 1) := by decide +kernel
theorem dX5_isKnown_259 : decode cX5_isKnown 259 = .ok (.iconst 0, 1) := by decide +kernel
theorem dX5_isKnown_260 : decode cX5_isKnown 260 = .ok (.sipush 255, 3) := by decide +kernel
theorem dX5_isKnown_263 : decode cX5_isKnown 263 = .ok (.invokestatic 155, 3) := by decide +kernel
theorem dX5_isKnown_266 : decode cX5_isKnown 266 = .ok (.ifCond .eq 7, 3) := by decide +kernel
theorem dX5_isKnown_269 : decode cX5_isKnown 269 = .ok (.iconst 1, 1) := by decide +kernel
theorem dX5_isKnown_270 : decode cX5_isKnown 270 = .ok (.goto 4, 3) := by decide +kernel
theorem dX5_isKnown_273 : decode cX5_isKnown 273 = .ok (.iconst 0, 1) := by decide +kernel
theorem dX5_isKnown_274 : decode cX5_isKnown 274 = .ok (.ireturn, 1) := by decide +kernel
theorem dX5_isKnown_275 : decode cX5_isKnown 275 = .ok (.iconst 0, 1) := by decide +kernel
theorem dX5_isKnown_276 : decode cX5_isKnown 276 = .ok (.ireturn, 1) := by decide +kernel
theorem dX5_waitingTasks_0 : decode cX5_waitingTasks 0 = .ok (.iconst 0, 1) := by decide +kernel
theorem dX5_waitingTasks_1 : decode cX5_waitingTasks 1 = .ok (.istore_n 1, 1) := by decide +kernel
theorem dX5_waitingTasks_2 : decode cX5_waitingTasks 2 = .ok (.iconst 0, 1) := by decide +kernel
theorem dX5_waitingTasks_3 : decode cX5_waitingTasks 3 = .ok (.istore_n 2, 1) := by decide +kernel
theorem dX5_waitingTasks_4 : decode cX5_waitingTasks 4 = .ok (.iload_n 2, 1) := by decide +kernel
theorem dX5_waitingTasks_5 : decode cX5_waitingTasks 5 = .ok (.iconst 3, 1) := by decide +kernel
theorem dX5_waitingTasks_6 : decode cX5_waitingTasks 6 = .ok (.if_icmp .ge 21, 3) := by decide +kernel
theorem dX5_waitingTasks_9 : decode cX5_waitingTasks 9 = .ok (.iload_n 1, 1) := by decide +kernel
theorem dX5_waitingTasks_10 : decode cX5_waitingTasks 10 = .ok (.aload_n 0, 1) := by decide +kernel
theorem dX5_waitingTasks_11 : decode cX5_waitingTasks 11 = .ok (.getfield 25, 3) := by decide +kernel
theorem dX5_waitingTasks_14 : decode cX5_waitingTasks 14 = .ok (.iload_n 2, 1) := by decide +kernel
theorem dX5_waitingTasks_15 : decode cX5_waitingTasks 15 = .ok (.aaload, 1) := by decide +kernel
theorem dX5_waitingTasks_16 : decode cX5_waitingTasks 16 = .ok (.invokevirtual 148, 3) := by decide +kernel
theorem dX5_waitingTasks_19 : decode cX5_waitingTasks 19 = .ok (.iadd, 1) := by decide +kernel
theorem dX5_waitingTasks_20 : decode cX5_waitingTasks 20 = .ok (.istore_n 1, 1) := by decide +kernel
theorem dX5_waitingTasks_21 : decode cX5_waitingTasks 21 = .ok (.iinc 2 1, 3) := by decide +kernel
theorem dX5_waitingTasks_24 : decode cX5_waitingTasks 24 = .ok (.goto (-20), 3) := by decide +kernel
theorem dX5_waitingTasks_27 : decode cX5_waitingTasks 27 = .ok (.iload_n 1, 1) := by decide +kernel
theorem dX5_waitingTasks_28 : decode cX5_waitingTasks 28 = .ok (.ireturn, 1) := by decide +kernel
theorem dX5_checkpoint_0 : decode cX5_checkpoint 0 = .ok (.iconst 0, 1) := by decide +kernel
theorem dX5_checkpoint_1 : decode cX5_checkpoint 1 = .ok (.istore_n 1, 1) := by decide +kernel
theorem dX5_checkpoint_2 : decode cX5_checkpoint 2 = .ok (.iload_n 1, 1) := by decide +kernel
theorem dX5_checkpoint_3 : decode cX5_checkpoint 3 = .ok (.sipush 1000, 3) := by decide +kernel
theorem dX5_checkpoint_6 : decode cX5_checkpoint 6 = .ok (.if_icmp .ge 115, 3) := by decide +kernel
theorem dX5_checkpoint_9 : decode cX5_checkpoint 9 = .ok (.aload_n 0, 1) := by decide +kernel
theorem dX5_checkpoint_10 : decode cX5_checkpoint 10 = .ok (.getfield 29, 3) := by decide +kernel
theorem dX5_checkpoint_13 : decode cX5_checkpoint 13 = .ok (.invokevirtual 148, 3) := by decide +kernel
theorem dX5_checkpoint_16 : decode cX5_checkpoint 16 = .ok (.ifCond .le 105, 3) := by decide +kernel
theorem dX5_checkpoint_19 : decode cX5_checkpoint 19 = .ok (.aload_n 0, 1) := by decide +kernel
theorem dX5_checkpoint_20 : decode cX5_checkpoint 20 = .ok (.getfield 73, 3) := by decide +kernel
theorem dX5_checkpoint_23 : decode cX5_checkpoint 23 = .ok (.bipush 50, 2) := by decide +kernel
theorem dX5_checkpoint_25 : decode cX5_checkpoint 25 = .ok (.if_icmp .lt 12, 3) := by decide +kernel
theorem dX5_checkpoint_28 : decode cX5_checkpoint 28 = .ok (.aload_n 0, 1) := by decide +kernel
theorem dX5_checkpoint_29 : decode cX5_checkpoint 29 = .ok (.invokevirtual 210, 3) := by decide +kernel
theorem dX5_checkpoint_32 : decode cX5_checkpoint 32 = .ok (.ifCond .eq 5, 3) := by decide +kernel
theorem dX5_checkpoint_35 : decode cX5_checkpoint 35 = .ok (.iconst 0, 1) := by decide +kernel
theorem dX5_checkpoint_36 : decode cX5_checkpoint 36 = .ok (.ireturn, 1) := by decide +kernel
theorem dX5_checkpoint_37 : decode cX5_checkpoint 37 = .ok (.aload_n 0, 1) := by decide +kernel
theorem dX5_checkpoint_38 : decode cX5_checkpoint 38 = .ok (.getfield 29, 3) := by decide +kernel
theorem dX5_checkpoint_41 : decode cX5_checkpoint 41 = .ok (.invokevirtual 213, 3) := by decide +kernel
theorem dX5_checkpoint_44 : decode cX5_checkpoint 44 = .ok (.istore_n 2, 1) := by decide +kernel
theorem dX5_checkpoint_45 : decode cX5_checkpoint 45 = .ok (.aload_n 0, 1) := by decide +kernel
theorem dX5_checkpoint_46 : decode cX5_checkpoint 46 = .ok (.getfield 29, 3) := by decide +kernel
theorem dX5_checkpoint_49 : decode cX5_checkpoint 49 = .ok (.invokevirtual 216, 3) := by decide +kernel
theorem dX5_checkpoint_52 : decode cX5_checkpoint 52 = .ok (.istore_n 3, 1) := by decide +kernel
theorem dX5_checkpoint_53 : decode cX5_checkpoint 53 = .ok (.aload_n 0, 1) := by decide +kernel
theorem dX5_checkpoint_54 : decode cX5_checkpoint 54 = .ok (.getfield 29, 3) := by decide +kernel
theorem dX5_checkpoint_57 : decode cX5_checkpoint 57 = .ok (.invokevirtual 219, 3) := by decide +kernel
theorem dX5_checkpoint_60 : decode cX5_checkpoint 60 = .ok (.istore 4, 2) := by decide +kernel
theorem dX5_checkpoint_62 : decode cX5_checkpoint 62 = .ok (.aload_n 0, 1) := by decide +kernel
theorem dX5_checkpoint_63 : decode cX5_checkpoint 63 = .ok (.getfield 29, 3) := by decide +kernel
theorem dX5_checkpoint_66 : decode cX5_checkpoint 66 = .ok (.invokevirtual 222, 3) := by decide +kernel
theorem dX5_checkpoint_69 : decode cX5_checkpoint 69 = .ok (.iload_n 2, 1) := by decide +kernel
theorem dX5_checkpoint_70 : decode cX5_checkpoint 70 = .ok (.ifCond .ne 18, 3) := by decide +kernel
theorem dX5_checkpoint_73 : decode cX5_checkpoint 73 = .ok (.aload_n 0, 1) := by decide +kernel
theorem dX5_checkpoint_74 : decode cX5_checkpoint 74 = .ok (.iload_n 3, 1) := by decide +kernel
theorem dX5_checkpoint_75 : decode cX5_checkpoint 75 = .ok (.iload 4, 2) := by decide +kernel
theorem dX5_checkpoint_77 : decode cX5_checkpoint 77 = .ok (.iconst 1, 1) := by decide +kernel
theorem dX5_checkpoint_78 : decode cX5_checkpoint 78 = .ok (.invokevirtual 225, 3) := by decide +kernel
theorem dX5_checkpoint_81 : decode cX5_checkpoint 81 = .ok (.aload_n 0, 1) := by decide +kernel
theorem dX5_checkpoint_82 : decode cX5_checkpoint 82 = .ok (.invokevirtual 228, 3) := by decide +kernel
theorem dX5_checkpoint_85 : decode cX5_checkpoint 85 = .ok (.goto 30, 3) := by decide +kernel
theorem dX5_checkpoint_88 : decode cX5_checkpoint 88 = .ok (.iload_n 2, 1) := by decide +kernel
theorem dX5_checkpoint_89 : decode cX5_checkpoint 89 = .ok (.iconst 2, 1) := by decide +kernel
theorem dX5_checkpoint_90 : decode cX5_checkpoint 90 = .ok (.if_icmp .ne 11, 3) := by decide +kernel
theorem dX5_checkpoint_93 : decode cX5_checkpoint 93 = .ok (.aload_n 0, 1) := by decide +kernel
theorem dX5_checkpoint_94 : decode cX5_checkpoint 94 = .ok (.iload_n 3, 1) := by decide +kernel
theorem dX5_checkpoint_95 : decode cX5_checkpoint 95 = .ok (.invokevirtual 231, 3) := by decide +kernel
theorem dX5_checkpoint_98 : decode cX5_checkpoint 98 = .ok (.goto 17, 3) := by decide +kernel
theorem dX5_checkpoint_101 : decode cX5_checkpoint 101 = .ok (.aload_n 0, 1) := by decide +kernel
theorem dX5_checkpoint_102 : decode cX5_checkpoint 102 = .ok (.getfield 51, 3) := by decide +kernel
theorem dX5_checkpoint_105 : decode cX5_checkpoint 105 = .ok (.iload 4, 2) := by decide +kernel
theorem dX5_checkpoint_107 : decode cX5_checkpoint 107 = .ok (.bipush 16, 2) := by decide +kernel
theorem dX5_checkpoint_109 : decode cX5_checkpoint 109 = .ok (.bipush 16, 2) := by decide +kernel
theorem dX5_checkpoint_111 : decode cX5_checkpoint 111 = .ok (.iload_n 3, 1) := by decide +kernel
theorem dX5_checkpoint_112 : decode cX5_checkpoint 112 = .ok (.invokevirtual 234, 3) := by decide +kernel
theorem dX5_checkpoint_115 : decode cX5_checkpoint 115 = .ok (.iinc 1 1, 3) := by decide +kernel
theorem dX5_checkpoint_118 : decode cX5_checkpoint 118 = .ok (.goto (-116), 3) := by decide +kernel
theorem dX5_checkpoint_121 : decode cX5_checkpoint 121 = .ok (.aload_n 0, 1) := by decide +kernel
theorem dX5_checkpoint_122 : decode cX5_checkpoint 122 = .ok (.getfield 51, 3) := by decide +kernel
theorem dX5_checkpoint_125 : decode cX5_checkpoint 125 = .ok (.invokevirtual 237, 3) := by decide +kernel
theorem dX5_checkpoint_128 : decode cX5_checkpoint 128 = .ok (.iconst 1, 1) := by decide +kernel
theorem dX5_checkpoint_129 : decode cX5_checkpoint 129 = .ok (.ireturn, 1) := by decide +kernel
theorem dX5_microtaskBeginsRun_0 : decode cX5_microtaskBeginsRun 0 = .ok (.aload_n 0, 1) := by decide +kernel
theorem dX5_microtaskBeginsRun_1 : decode cX5_microtaskBeginsRun 1 = .ok (.getfield 29, 3) := by decide +kernel
theorem dX5_microtaskBeginsRun_4 : decode cX5_microtaskBeginsRun 4 = .ok (.invokevirtual 213, 3) := by decide +kernel
theorem dX5_microtaskBeginsRun_7 : decode cX5_microtaskBeginsRun 7 = .ok (.istore_n 1, 1) := by decide +kernel
theorem dX5_microtaskBeginsRun_8 : decode cX5_microtaskBeginsRun 8 = .ok (.iload_n 1, 1) := by decide +kernel
theorem dX5_microtaskBeginsRun_9 : decode cX5_microtaskBeginsRun 9 = .ok (.ifCond .eq 28, 3) := by decide +kernel
theorem dX5_microtaskBeginsRun_12 : decode cX5_microtaskBeginsRun 12 = .ok (.iload_n 1, 1) := by decide +kernel
theorem dX5_microtaskBeginsRun_13 : decode cX5_microtaskBeginsRun 13 = .ok (.iconst 2, 1) := by decide +kernel
theorem dX5_microtaskBeginsRun_14 : decode cX5_microtaskBeginsRun 14 = .ok (.if_icmp .ne 27, 3) := by decide +kernel
theorem dX5_microtaskBeginsRun_17 : decode cX5_microtaskBeginsRun 17 = .ok (.aload_n 0, 1) := by decide +kernel
theorem dX5_microtaskBeginsRun_18 : decode cX5_microtaskBeginsRun 18 = .ok (.getfield 51, 3) := by decide +kernel
theorem dX5_microtaskBeginsRun_21 : decode cX5_microtaskBeginsRun 21 = .ok (.aload_n 0, 1) := by decide +kernel
theorem dX5_microtaskBeginsRun_22 : decode cX5_microtaskBeginsRun 22 = .ok (.getfield 29, 3) := by decide +kernel
theorem dX5_microtaskBeginsRun_25 : decode cX5_microtaskBeginsRun 25 = .ok (.invokevirtual 216, 3) := by decide +kernel
theorem dX5_microtaskBeginsRun_28 : decode cX5_microtaskBeginsRun 28 = .ok (.invokevirtual 240, 3) := by decide +kernel
theorem dX5_microtaskBeginsRun_31 : decode cX5_microtaskBeginsRun 31 = .ok (.invokestatic 91, 3) := by decide +kernel
theorem dX5_microtaskBeginsRun_34 : decode cX5_microtaskBeginsRun 34 = .ok (.ifCond .eq 7, 3) := by decide +kernel
theorem dX5_microtaskBeginsRun_37 : decode cX5_microtaskBeginsRun 37 = .ok (.iconst 1, 1) := by decide +kernel
theorem dX5_microtaskBeginsRun_38 : decode cX5_microtaskBeginsRun 38 = .ok (.goto 4, 3) := by decide +kernel
theorem dX5_microtaskBeginsRun_41 : decode cX5_microtaskBeginsRun 41 = .ok (.iconst 0, 1) := by decide +kernel
theorem dX5_microtaskBeginsRun_42 : decode cX5_microtaskBeginsRun 42 = .ok (.ireturn, 1) := by decide +kernel
theorem dX5_doReaction_0 : decode cX5_doReaction 0 = .ok (.aload_n 0, 1) := by decide +kernel
theorem dX5_doReaction_1 : decode cX5_doReaction 1 = .ok (.getfield 51, 3) := by decide +kernel
theorem dX5_doReaction_4 : decode cX5_doReaction 4 = .ok (.iload_n 1, 1) := by decide +kernel
theorem dX5_doReaction_5 : decode cX5_doReaction 5 = .ok (.invokevirtual 243, 3) := by decide +kernel
theorem dX5_doReaction_8 : decode cX5_doReaction 8 = .ok (.istore_n 2, 1) := by decide +kernel
theorem dX5_doReaction_9 : decode cX5_doReaction 9 = .ok (.aload_n 0, 1) := by decide +kernel
theorem dX5_doReaction_10 : decode cX5_doReaction 10 = .ok (.getfield 51, 3) := by decide +kernel
theorem dX5_doReaction_13 : decode cX5_doReaction 13 = .ok (.iload_n 1, 1) := by decide +kernel
theorem dX5_doReaction_14 : decode cX5_doReaction 14 = .ok (.invokevirtual 246, 3) := by decide +kernel
theorem dX5_doReaction_17 : decode cX5_doReaction 17 = .ok (.istore_n 3, 1) := by decide +kernel
theorem dX5_doReaction_18 : decode cX5_doReaction 18 = .ok (.aload_n 0, 1) := by decide +kernel
theorem dX5_doReaction_19 : decode cX5_doReaction 19 = .ok (.getfield 51, 3) := by decide +kernel
theorem dX5_doReaction_22 : decode cX5_doReaction 22 = .ok (.iload_n 2, 1) := by decide +kernel
theorem dX5_doReaction_23 : decode cX5_doReaction 23 = .ok (.invokevirtual 180, 3) := by decide +kernel
theorem dX5_doReaction_26 : decode cX5_doReaction 26 = .ok (.istore 4, 2) := by decide +kernel
theorem dX5_doReaction_28 : decode cX5_doReaction 28 = .ok (.aload_n 0, 1) := by decide +kernel
theorem dX5_doReaction_29 : decode cX5_doReaction 29 = .ok (.getfield 51, 3) := by decide +kernel
theorem dX5_doReaction_32 : decode cX5_doReaction 32 = .ok (.iload_n 2, 1) := by decide +kernel
theorem dX5_doReaction_33 : decode cX5_doReaction 33 = .ok (.invokevirtual 185, 3) := by decide +kernel
theorem dX5_doReaction_36 : decode cX5_doReaction 36 = .ok (.istore 5, 2) := by decide +kernel
theorem dX5_doReaction_38 : decode cX5_doReaction 38 = .ok (.aload_n 0, 1) := by decide +kernel
theorem dX5_doReaction_39 : decode cX5_doReaction 39 = .ok (.getfield 51, 3) := by decide +kernel
theorem dX5_doReaction_42 : decode cX5_doReaction 42 = .ok (.iload_n 1, 1) := by decide +kernel
theorem dX5_doReaction_43 : decode cX5_doReaction 43 = .ok (.invokevirtual 240, 3) := by decide +kernel
theorem dX5_doReaction_46 : decode cX5_doReaction 46 = .ok (.istore 6, 2) := by decide +kernel
theorem dX5_doReaction_48 : decode cX5_doReaction 48 = .ok (.iload 6, 2) := by decide +kernel
theorem dX5_doReaction_50 : decode cX5_doReaction 50 = .ok (.bipush 16, 2) := by decide +kernel
theorem dX5_doReaction_52 : decode cX5_doReaction 52 = .ok (.if_icmp .ne 18, 3) := by decide +kernel
theorem dX5_doReaction_55 : decode cX5_doReaction 55 = .ok (.aload_n 0, 1) := by decide +kernel
theorem dX5_doReaction_56 : decode cX5_doReaction 56 = .ok (.getfield 51, 3) := by decide +kernel
theorem dX5_doReaction_59 : decode cX5_doReaction 59 = .ok (.iload_n 3, 1) := by decide +kernel
theorem dX5_doReaction_60 : decode cX5_doReaction 60 = .ok (.iload 4, 2) := by decide +kernel
theorem dX5_doReaction_62 : decode cX5_doReaction 62 = .ok (.iload 5, 2) := by decide +kernel
theorem dX5_doReaction_64 : decode cX5_doReaction 64 = .ok (.invokevirtual 249, 3) := by decide +kernel
theorem dX5_doReaction_67 : decode cX5_doReaction 67 = .ok (.goto 40, 3) := by decide +kernel
theorem dX5_doReaction_70 : decode cX5_doReaction 70 = .ok (.iload 6, 2) := by decide +kernel
theorem dX5_doReaction_72 : decode cX5_doReaction 72 = .ok (.invokestatic 91, 3) := by decide +kernel
theorem dX5_doReaction_75 : decode cX5_doReaction 75 = .ok (.ifCond .eq 20, 3) := by decide +kernel
theorem dX5_doReaction_78 : decode cX5_doReaction 78 = .ok (.aload_n 0, 1) := by decide +kernel
theorem dX5_doReaction_79 : decode cX5_doReaction 79 = .ok (.iload 6, 2) := by decide +kernel
theorem dX5_doReaction_81 : decode cX5_doReaction 81 = .ok (.iload 5, 2) := by decide +kernel
theorem dX5_doReaction_83 : decode cX5_doReaction 83 = .ok (.iconst 1, 1) := by decide +kernel
theorem dX5_doReaction_84 : decode cX5_doReaction 84 = .ok (.invokevirtual 225, 3) := by decide +kernel
theorem dX5_doReaction_87 : decode cX5_doReaction 87 = .ok (.aload_n 0, 1) := by decide +kernel
theorem dX5_doReaction_88 : decode cX5_doReaction 88 = .ok (.iload_n 3, 1) := by decide +kernel
theorem dX5_doReaction_89 : decode cX5_doReaction 89 = .ok (.invokevirtual 252, 3) := by decide +kernel
theorem dX5_doReaction_92 : decode cX5_doReaction 92 = .ok (.goto 15, 3) := by decide +kernel
theorem dX5_doReaction_95 : decode cX5_doReaction 95 = .ok (.aload_n 0, 1) := by decide +kernel
theorem dX5_doReaction_96 : decode cX5_doReaction 96 = .ok (.getfield 51, 3) := by decide +kernel
theorem dX5_doReaction_99 : decode cX5_doReaction 99 = .ok (.iload_n 3, 1) := by decide +kernel
theorem dX5_doReaction_100 : decode cX5_doReaction 100 = .ok (.iload 4, 2) := by decide +kernel
theorem dX5_doReaction_102 : decode cX5_doReaction 102 = .ok (.iload 5, 2) := by decide +kernel
theorem dX5_doReaction_104 : decode cX5_doReaction 104 = .ok (.invokevirtual 255, 3) := by decide +kernel
theorem dX5_doReaction_107 : decode cX5_doReaction 107 = .ok (.return_, 1) := by decide +kernel
theorem dX5_settleWithResult_0 : decode cX5_settleWithResult 0 = .ok (.aload_n 0, 1) := by decide +kernel
theorem dX5_settleWithResult_1 : decode cX5_settleWithResult 1 = .ok (.getfield 82, 3) := by decide +kernel
theorem dX5_settleWithResult_4 : decode cX5_settleWithResult 4 = .ok (.ifCond .eq 19, 3) := by decide +kernel
theorem dX5_settleWithResult_7 : decode cX5_settleWithResult 7 = .ok (.aload_n 0, 1) := by decide +kernel
theorem dX5_settleWithResult_8 : decode cX5_settleWithResult 8 = .ok (.getfield 51, 3) := by decide +kernel
theorem dX5_settleWithResult_11 : decode cX5_settleWithResult 11 = .ok (.iload_n 1, 1) := by decide +kernel
theorem dX5_settleWithResult_12 : decode cX5_settleWithResult 12 = .ok (.iconst 2, 1) := by decide +kernel
theorem dX5_settleWithResult_13 : decode cX5_settleWithResult 13 = .ok (.aload_n 0, 1) := by decide +kernel
theorem dX5_settleWithResult_14 : decode cX5_settleWithResult 14 = .ok (.getfield 88, 3) := by decide +kernel
theorem dX5_settleWithResult_17 : decode cX5_settleWithResult 17 = .ok (.invokevirtual 255, 3) := by decide +kernel
theorem dX5_settleWithResult_20 : decode cX5_settleWithResult 20 = .ok (.goto 38, 3) := by decide +kernel
theorem dX5_settleWithResult_23 : decode cX5_settleWithResult 23 = .ok (.aload_n 0, 1) := by decide +kernel
theorem dX5_settleWithResult_24 : decode cX5_settleWithResult 24 = .ok (.getfield 85, 3) := by decide +kernel
theorem dX5_settleWithResult_27 : decode cX5_settleWithResult 27 = .ok (.ifCond .eq 18, 3) := by decide +kernel
theorem dX5_settleWithResult_30 : decode cX5_settleWithResult 30 = .ok (.aload_n 0, 1) := by decide +kernel
theorem dX5_settleWithResult_31 : decode cX5_settleWithResult 31 = .ok (.getfield 51, 3) := by decide +kernel
theorem dX5_settleWithResult_34 : decode cX5_settleWithResult 34 = .ok (.iload_n 1, 1) := by decide +kernel
theorem dX5_settleWithResult_35 : decode cX5_settleWithResult 35 = .ok (.aload_n 0, 1) := by decide +kernel
theorem dX5_settleWithResult_36 : decode cX5_settleWithResult 36 = .ok (.getfield 88, 3) := by decide +kernel
theorem dX5_settleWithResult_39 : decode cX5_settleWithResult 39 = .ok (.invokevirtual 258, 3) := by decide +kernel
theorem dX5_settleWithResult_42 : decode cX5_settleWithResult 42 = .ok (.goto 16, 3) := by decide +kernel
theorem dX5_settleWithResult_45 : decode cX5_settleWithResult 45 = .ok (.aload_n 0, 1) := by decide +kernel
theorem dX5_settleWithResult_46 : decode cX5_settleWithResult 46 = .ok (.getfield 51, 3) := by decide +kernel
theorem dX5_settleWithResult_49 : decode cX5_settleWithResult 49 = .ok (.iload_n 1, 1) := by decide +kernel
theorem dX5_settleWithResult_50 : decode cX5_settleWithResult 50 = .ok (.iconst 1, 1) := by decide +kernel
theorem dX5_settleWithResult_51 : decode cX5_settleWithResult 51 = .ok (.aload_n 0, 1) := by decide +kernel
theorem dX5_settleWithResult_52 : decode cX5_settleWithResult 52 = .ok (.getfield 88, 3) := by decide +kernel
theorem dX5_settleWithResult_55 : decode cX5_settleWithResult 55 = .ok (.invokevirtual 255, 3) := by decide +kernel
theorem dX5_settleWithResult_58 : decode cX5_settleWithResult 58 = .ok (.return_, 1) := by decide +kernel
theorem dX5_doTask_0 : decode cX5_doTask 0 = .ok (.aload_n 0, 1) := by decide +kernel
theorem dX5_doTask_1 : decode cX5_doTask 1 = .ok (.invokevirtual 262, 3) := by decide +kernel
theorem dX5_doTask_4 : decode cX5_doTask 4 = .ok (.istore_n 1, 1) := by decide +kernel
theorem dX5_doTask_5 : decode cX5_doTask 5 = .ok (.iload_n 1, 1) := by decide +kernel
theorem dX5_doTask_6 : decode cX5_doTask 6 = .ok (.iconst (-1), 1) := by decide +kernel
theorem dX5_doTask_7 : decode cX5_doTask 7 = .ok (.if_icmp .ne 5, 3) := by decide +kernel
theorem dX5_doTask_10 : decode cX5_doTask 10 = .ok (.iconst 1, 1) := by decide +kernel
theorem dX5_doTask_11 : decode cX5_doTask 11 = .ok (.ireturn, 1) := by decide +kernel
theorem dX5_doTask_12 : decode cX5_doTask 12 = .ok (.aload_n 0, 1) := by decide +kernel
theorem dX5_doTask_13 : decode cX5_doTask 13 = .ok (.getfield 25, 3) := by decide +kernel
theorem dX5_doTask_16 : decode cX5_doTask 16 = .ok (.iload_n 1, 1) := by decide +kernel
theorem dX5_doTask_17 : decode cX5_doTask 17 = .ok (.aaload, 1) := by decide +kernel
theorem dX5_doTask_18 : decode cX5_doTask 18 = .ok (.astore_n 2, 1) := by decide +kernel
theorem dX5_doTask_19 : decode cX5_doTask 19 = .ok (.aload_n 2, 1) := by decide +kernel
theorem dX5_doTask_20 : decode cX5_doTask 20 = .ok (.invokevirtual 216, 3) := by decide +kernel
theorem dX5_doTask_23 : decode cX5_doTask 23 = .ok (.istore_n 3, 1) := by decide +kernel
theorem dX5_doTask_24 : decode cX5_doTask 24 = .ok (.aload_n 2, 1) := by decide +kernel
theorem dX5_doTask_25 : decode cX5_doTask 25 = .ok (.invokevirtual 219, 3) := by decide +kernel
theorem dX5_doTask_28 : decode cX5_doTask 28 = .ok (.istore 4, 2) := by decide +kernel
theorem dX5_doTask_30 : decode cX5_doTask 30 = .ok (.aload_n 2, 1) := by decide +kernel
theorem dX5_doTask_31 : decode cX5_doTask 31 = .ok (.invokevirtual 213, 3) := by decide +kernel
theorem dX5_doTask_34 : decode cX5_doTask 34 = .ok (.iconst 1, 1) := by decide +kernel
theorem dX5_doTask_35 : decode cX5_doTask 35 = .ok (.if_icmp .ne 7, 3) := by decide +kernel
theorem dX5_doTask_38 : decode cX5_doTask 38 = .ok (.iconst 1, 1) := by decide +kernel
theorem dX5_doTask_39 : decode cX5_doTask 39 = .ok (.goto 4, 3) := by decide +kernel
theorem dX5_doTask_42 : decode cX5_doTask 42 = .ok (.iconst 0, 1) := by decide +kernel
theorem dX5_doTask_43 : decode cX5_doTask 43 = .ok (.istore 5, 2) := by decide +kernel
theorem dX5_doTask_45 : decode cX5_doTask 45 = .ok (.iload 5, 2) := by decide +kernel
theorem dX5_doTask_47 : decode cX5_doTask 47 = .ok (.ifCond .eq 15, 3) := by decide +kernel
theorem dX5_doTask_50 : decode cX5_doTask 50 = .ok (.aload_n 0, 1) := by decide +kernel
theorem dX5_doTask_51 : decode cX5_doTask 51 = .ok (.getfield 58, 3) := by decide +kernel
theorem dX5_doTask_54 : decode cX5_doTask 54 = .ok (.iload_n 3, 1) := by decide +kernel
theorem dX5_doTask_55 : decode cX5_doTask 55 = .ok (.invokevirtual 265, 3) := by decide +kernel
theorem dX5_doTask_58 : decode cX5_doTask 58 = .ok (.iconst (-1), 1) := by decide +kernel
theorem dX5_doTask_59 : decode cX5_doTask 59 = .ok (.if_icmp .eq 7, 3) := by decide +kernel
theorem dX5_doTask_62 : decode cX5_doTask 62 = .ok (.iconst 1, 1) := by decide +kernel
theorem dX5_doTask_63 : decode cX5_doTask 63 = .ok (.goto 4, 3) := by decide +kernel
theorem dX5_doTask_66 : decode cX5_doTask 66 = .ok (.iconst 0, 1) := by decide +kernel
theorem dX5_doTask_67 : decode cX5_doTask 67 = .ok (.istore 6, 2) := by decide +kernel
theorem dX5_doTask_69 : decode cX5_doTask 69 = .ok (.iload 6, 2) := by decide +kernel
theorem dX5_doTask_71 : decode cX5_doTask 71 = .ok (.ifCond .eq 14, 3) := by decide +kernel
theorem dX5_doTask_74 : decode cX5_doTask 74 = .ok (.aload_n 0, 1) := by decide +kernel
theorem dX5_doTask_75 : decode cX5_doTask 75 = .ok (.getfield 73, 3) := by decide +kernel
theorem dX5_doTask_78 : decode cX5_doTask 78 = .ok (.bipush 50, 2) := by decide +kernel
theorem dX5_doTask_80 : decode cX5_doTask 80 = .ok (.if_icmp .lt 5, 3) := by decide +kernel
theorem dX5_doTask_83 : decode cX5_doTask 83 = .ok (.iconst 0, 1) := by decide +kernel
theorem dX5_doTask_84 : decode cX5_doTask 84 = .ok (.ireturn, 1) := by decide +kernel
theorem dX5_doTask_85 : decode cX5_doTask 85 = .ok (.aload_n 2, 1) := by decide +kernel
theorem dX5_doTask_86 : decode cX5_doTask 86 = .ok (.invokevirtual 222, 3) := by decide +kernel
theorem dX5_doTask_89 : decode cX5_doTask 89 = .ok (.iload 5, 2) := by decide +kernel
theorem dX5_doTask_91 : decode cX5_doTask 91 = .ok (.ifCond .eq 11, 3) := by decide +kernel
theorem dX5_doTask_94 : decode cX5_doTask 94 = .ok (.aload_n 0, 1) := by decide +kernel
theorem dX5_doTask_95 : decode cX5_doTask 95 = .ok (.iload_n 3, 1) := by decide +kernel
theorem dX5_doTask_96 : decode cX5_doTask 96 = .ok (.invokevirtual 268, 3) := by decide +kernel
theorem dX5_doTask_99 : decode cX5_doTask 99 = .ok (.goto 15, 3) := by decide +kernel
theorem dX5_doTask_102 : decode cX5_doTask 102 = .ok (.aload_n 0, 1) := by decide +kernel
theorem dX5_doTask_103 : decode cX5_doTask 103 = .ok (.iload_n 3, 1) := by decide +kernel
theorem dX5_doTask_104 : decode cX5_doTask 104 = .ok (.iload 4, 2) := by decide +kernel
theorem dX5_doTask_106 : decode cX5_doTask 106 = .ok (.iconst 1, 1) := by decide +kernel
theorem dX5_doTask_107 : decode cX5_doTask 107 = .ok (.invokevirtual 225, 3) := by decide +kernel
theorem dX5_doTask_110 : decode cX5_doTask 110 = .ok (.aload_n 0, 1) := by decide +kernel
theorem dX5_doTask_111 : decode cX5_doTask 111 = .ok (.invokevirtual 228, 3) := by decide +kernel
theorem dX5_doTask_114 : decode cX5_doTask 114 = .ok (.iconst 1, 1) := by decide +kernel
theorem dX5_doTask_115 : decode cX5_doTask 115 = .ok (.ireturn, 1) := by decide +kernel
theorem dX5_sourceOfNextTask_0 : decode cX5_sourceOfNextTask 0 = .ok (.aload_n 0, 1) := by decide +kernel
theorem dX5_sourceOfNextTask_1 : decode cX5_sourceOfNextTask 1 = .ok (.getfield 25, 3) := by decide +kernel
theorem dX5_sourceOfNextTask_4 : decode cX5_sourceOfNextTask 4 = .ok (.aload_n 0, 1) := by decide +kernel
theorem dX5_sourceOfNextTask_5 : decode cX5_sourceOfNextTask 5 = .ok (.getfield 62, 3) := by decide +kernel
theorem dX5_sourceOfNextTask_8 : decode cX5_sourceOfNextTask 8 = .ok (.aaload, 1) := by decide +kernel
theorem dX5_sourceOfNextTask_9 : decode cX5_sourceOfNextTask 9 = .ok (.invokevirtual 148, 3) := by decide +kernel
theorem dX5_sourceOfNextTask_12 : decode cX5_sourceOfNextTask 12 = .ok (.ifCond .le 8, 3) := by decide +kernel
theorem dX5_sourceOfNextTask_15 : decode cX5_sourceOfNextTask 15 = .ok (.aload_n 0, 1) := by decide +kernel
theorem dX5_sourceOfNextTask_16 : decode cX5_sourceOfNextTask 16 = .ok (.getfield 62, 3) := by decide +kernel
theorem dX5_sourceOfNextTask_19 : decode cX5_sourceOfNextTask 19 = .ok (.ireturn, 1) := by decide +kernel
theorem dX5_sourceOfNextTask_20 : decode cX5_sourceOfNextTask 20 = .ok (.iconst 0, 1) := by decide +kernel
theorem dX5_sourceOfNextTask_21 : decode cX5_sourceOfNextTask 21 = .ok (.istore_n 1, 1) := by decide +kernel
theorem dX5_sourceOfNextTask_22 : decode cX5_sourceOfNextTask 22 = .ok (.iload_n 1, 1) := by decide +kernel
theorem dX5_sourceOfNextTask_23 : decode cX5_sourceOfNextTask 23 = .ok (.iconst 3, 1) := by decide +kernel
theorem dX5_sourceOfNextTask_24 : decode cX5_sourceOfNextTask 24 = .ok (.if_icmp .ge 23, 3) := by decide +kernel
theorem dX5_sourceOfNextTask_27 : decode cX5_sourceOfNextTask 27 = .ok (.aload_n 0, 1) := by decide +kernel
theorem dX5_sourceOfNextTask_28 : decode cX5_sourceOfNextTask 28 = .ok (.getfield 25, 3) := by decide +kernel
theorem dX5_sourceOfNextTask_31 : decode cX5_sourceOfNextTask 31 = .ok (.iload_n 1, 1) := by decide +kernel
theorem dX5_sourceOfNextTask_32 : decode cX5_sourceOfNextTask 32 = .ok (.aaload, 1) := by decide +kernel
theorem dX5_sourceOfNextTask_33 : decode cX5_sourceOfNextTask 33 = .ok (.invokevirtual 148, 3) := by decide +kernel
theorem dX5_sourceOfNextTask_36 : decode cX5_sourceOfNextTask 36 = .ok (.ifCond .le 5, 3) := by decide +kernel
theorem dX5_sourceOfNextTask_39 : decode cX5_sourceOfNextTask 39 = .ok (.iload_n 1, 1) := by decide +kernel
theorem dX5_sourceOfNextTask_40 : decode cX5_sourceOfNextTask 40 = .ok (.ireturn, 1) := by decide +kernel
theorem dX5_sourceOfNextTask_41 : decode cX5_sourceOfNextTask 41 = .ok (.iinc 1 1, 3) := by decide +kernel
theorem dX5_sourceOfNextTask_44 : decode cX5_sourceOfNextTask 44 = .ok (.goto (-22), 3) := by decide +kernel
theorem dX5_sourceOfNextTask_47 : decode cX5_sourceOfNextTask 47 = .ok (.iconst (-1), 1) := by decide +kernel
theorem dX5_sourceOfNextTask_48 : decode cX5_sourceOfNextTask 48 = .ok (.ireturn, 1) := by decide +kernel
theorem dX5_doTimer_0 : decode cX5_doTimer 0 = .ok (.aload_n 0, 1) := by decide +kernel
theorem dX5_doTimer_1 : decode cX5_doTimer 1 = .ok (.getfield 58, 3) := by decide +kernel
theorem dX5_doTimer_4 : decode cX5_doTimer 4 = .ok (.iload_n 1, 1) := by decide +kernel
theorem dX5_doTimer_5 : decode cX5_doTimer 5 = .ok (.invokevirtual 265, 3) := by decide +kernel
theorem dX5_doTimer_8 : decode cX5_doTimer 8 = .ok (.istore_n 2, 1) := by decide +kernel
theorem dX5_doTimer_9 : decode cX5_doTimer 9 = .ok (.iload_n 2, 1) := by decide +kernel
theorem dX5_doTimer_10 : decode cX5_doTimer 10 = .ok (.iconst (-1), 1) := by decide +kernel
theorem dX5_doTimer_11 : decode cX5_doTimer 11 = .ok (.if_icmp .ne 4, 3) := by decide +kernel
theorem dX5_doTimer_14 : decode cX5_doTimer 14 = .ok (.return_, 1) := by decide +kernel
theorem dX5_doTimer_15 : decode cX5_doTimer 15 = .ok (.aload_n 0, 1) := by decide +kernel
theorem dX5_doTimer_16 : decode cX5_doTimer 16 = .ok (.getfield 58, 3) := by decide +kernel
theorem dX5_doTimer_19 : decode cX5_doTimer 19 = .ok (.iload_n 2, 1) := by decide +kernel
theorem dX5_doTimer_20 : decode cX5_doTimer 20 = .ok (.invokevirtual 271, 3) := by decide +kernel
theorem dX5_doTimer_23 : decode cX5_doTimer 23 = .ok (.istore_n 3, 1) := by decide +kernel
theorem dX5_doTimer_24 : decode cX5_doTimer 24 = .ok (.aload_n 0, 1) := by decide +kernel
theorem dX5_doTimer_25 : decode cX5_doTimer 25 = .ok (.getfield 58, 3) := by decide +kernel
theorem dX5_doTimer_28 : decode cX5_doTimer 28 = .ok (.iload_n 2, 1) := by decide +kernel
theorem dX5_doTimer_29 : decode cX5_doTimer 29 = .ok (.invokevirtual 274, 3) := by decide +kernel
theorem dX5_doTimer_32 : decode cX5_doTimer 32 = .ok (.istore 4, 2) := by decide +kernel
theorem dX5_doTimer_34 : decode cX5_doTimer 34 = .ok (.aload_n 0, 1) := by decide +kernel
theorem dX5_doTimer_35 : decode cX5_doTimer 35 = .ok (.aload_n 0, 1) := by decide +kernel
theorem dX5_doTimer_36 : decode cX5_doTimer 36 = .ok (.getfield 58, 3) := by decide +kernel
theorem dX5_doTimer_39 : decode cX5_doTimer 39 = .ok (.iload_n 2, 1) := by decide +kernel
theorem dX5_doTimer_40 : decode cX5_doTimer 40 = .ok (.invokevirtual 277, 3) := by decide +kernel
theorem dX5_doTimer_43 : decode cX5_doTimer 43 = .ok (.putfield 79, 3) := by decide +kernel
theorem dX5_doTimer_46 : decode cX5_doTimer 46 = .ok (.aload_n 0, 1) := by decide +kernel
theorem dX5_doTimer_47 : decode cX5_doTimer 47 = .ok (.getfield 58, 3) := by decide +kernel
theorem dX5_doTimer_50 : decode cX5_doTimer 50 = .ok (.iload_n 2, 1) := by decide +kernel
theorem dX5_doTimer_51 : decode cX5_doTimer 51 = .ok (.invokevirtual 280, 3) := by decide +kernel
theorem dX5_doTimer_54 : decode cX5_doTimer 54 = .ok (.ifCond .ne 11, 3) := by decide +kernel
theorem dX5_doTimer_57 : decode cX5_doTimer 57 = .ok (.aload_n 0, 1) := by decide +kernel
theorem dX5_doTimer_58 : decode cX5_doTimer 58 = .ok (.getfield 58, 3) := by decide +kernel
theorem dX5_doTimer_61 : decode cX5_doTimer 61 = .ok (.iload_n 1, 1) := by decide +kernel
theorem dX5_doTimer_62 : decode cX5_doTimer 62 = .ok (.invokevirtual 283, 3) := by decide +kernel
theorem dX5_doTimer_65 : decode cX5_doTimer 65 = .ok (.aload_n 0, 1) := by decide +kernel
theorem dX5_doTimer_66 : decode cX5_doTimer 66 = .ok (.iload_n 3, 1) := by decide +kernel
theorem dX5_doTimer_67 : decode cX5_doTimer 67 = .ok (.iload 4, 2) := by decide +kernel
theorem dX5_doTimer_69 : decode cX5_doTimer 69 = .ok (.iconst 1, 1) := by decide +kernel
theorem dX5_doTimer_70 : decode cX5_doTimer 70 = .ok (.invokevirtual 225, 3) := by decide +kernel
theorem dX5_doTimer_73 : decode cX5_doTimer 73 = .ok (.aload_n 0, 1) := by decide +kernel
theorem dX5_doTimer_74 : decode cX5_doTimer 74 = .ok (.invokevirtual 228, 3) := by decide +kernel
theorem dX5_doTimer_77 : decode cX5_doTimer 77 = .ok (.aload_n 0, 1) := by decide +kernel
theorem dX5_doTimer_78 : decode cX5_doTimer 78 = .ok (.iconst 0, 1) := by decide +kernel
theorem dX5_doTimer_79 : decode cX5_doTimer 79 = .ok (.putfield 79, 3) := by decide +kernel
theorem dX5_doTimer_82 : decode cX5_doTimer 82 = .ok (.aload_n 0, 1) := by decide +kernel
theorem dX5_doTimer_83 : decode cX5_doTimer 83 = .ok (.getfield 58, 3) := by decide +kernel
theorem dX5_doTimer_86 : decode cX5_doTimer 86 = .ok (.iload_n 1, 1) := by decide +kernel
theorem dX5_doTimer_87 : decode cX5_doTimer 87 = .ok (.aload_n 0, 1) := by decide +kernel
theorem dX5_doTimer_88 : decode cX5_doTimer 88 = .ok (.getfield 66, 3) := by decide +kernel
theorem dX5_doTimer_91 : decode cX5_doTimer 91 = .ok (.invokevirtual 286, 3) := by decide +kernel
theorem dX5_doTimer_94 : decode cX5_doTimer 94 = .ok (.return_, 1) := by decide +kernel
theorem dX5_doFrame_0 : decode cX5_doFrame 0 = .ok (.aload_n 0, 1) := by decide +kernel
theorem dX5_doFrame_1 : decode cX5_doFrame 1 = .ok (.getfield 73, 3) := by decide +kernel
theorem dX5_doFrame_4 : decode cX5_doFrame 4 = .ok (.bipush 50, 2) := by decide +kernel
theorem dX5_doFrame_6 : decode cX5_doFrame 6 = .ok (.if_icmp .lt 5, 3) := by decide +kernel
theorem dX5_doFrame_9 : decode cX5_doFrame 9 = .ok (.iconst 0, 1) := by decide +kernel
theorem dX5_doFrame_10 : decode cX5_doFrame 10 = .ok (.ireturn, 1) := by decide +kernel
theorem dX5_doFrame_11 : decode cX5_doFrame 11 = .ok (.aload_n 0, 1) := by decide +kernel
theorem dX5_doFrame_12 : decode cX5_doFrame 12 = .ok (.getfield 33, 3) := by decide +kernel
theorem dX5_doFrame_15 : decode cX5_doFrame 15 = .ok (.invokevirtual 216, 3) := by decide +kernel
theorem dX5_doFrame_18 : decode cX5_doFrame 18 = .ok (.istore_n 2, 1) := by decide +kernel
theorem dX5_doFrame_19 : decode cX5_doFrame 19 = .ok (.aload_n 0, 1) := by decide +kernel
theorem dX5_doFrame_20 : decode cX5_doFrame 20 = .ok (.getfield 33, 3) := by decide +kernel
theorem dX5_doFrame_23 : decode cX5_doFrame 23 = .ok (.invokevirtual 222, 3) := by decide +kernel
theorem dX5_doFrame_26 : decode cX5_doFrame 26 = .ok (.aload_n 0, 1) := by decide +kernel
theorem dX5_doFrame_27 : decode cX5_doFrame 27 = .ok (.iload_n 2, 1) := by decide +kernel
theorem dX5_doFrame_28 : decode cX5_doFrame 28 = .ok (.aload_n 0, 1) := by decide +kernel
theorem dX5_doFrame_29 : decode cX5_doFrame 29 = .ok (.getfield 66, 3) := by decide +kernel
theorem dX5_doFrame_32 : decode cX5_doFrame 32 = .ok (.iconst 1, 1) := by decide +kernel
theorem dX5_doFrame_33 : decode cX5_doFrame 33 = .ok (.invokevirtual 225, 3) := by decide +kernel
theorem dX5_doFrame_36 : decode cX5_doFrame 36 = .ok (.aload_n 0, 1) := by decide +kernel
theorem dX5_doFrame_37 : decode cX5_doFrame 37 = .ok (.invokevirtual 228, 3) := by decide +kernel
theorem dX5_doFrame_40 : decode cX5_doFrame 40 = .ok (.iload_n 1, 1) := by decide +kernel
theorem dX5_doFrame_41 : decode cX5_doFrame 41 = .ok (.ifCond .eq 8, 3) := by decide +kernel
theorem dX5_doFrame_44 : decode cX5_doFrame 44 = .ok (.aload_n 0, 1) := by decide +kernel
theorem dX5_doFrame_45 : decode cX5_doFrame 45 = .ok (.iconst 0, 1) := by decide +kernel
theorem dX5_doFrame_46 : decode cX5_doFrame 46 = .ok (.putfield 69, 3) := by decide +kernel
theorem dX5_doFrame_49 : decode cX5_doFrame 49 = .ok (.iconst 1, 1) := by decide +kernel
theorem dX5_doFrame_50 : decode cX5_doFrame 50 = .ok (.ireturn, 1) := by decide +kernel
theorem dX5_reportFailure_0 : decode cX5_reportFailure 0 = .ok (.aload_n 0, 1) := by decide +kernel
theorem dX5_reportFailure_1 : decode cX5_reportFailure 1 = .ok (.getfield 82, 3) := by decide +kernel
theorem dX5_reportFailure_4 : decode cX5_reportFailure 4 = .ok (.ifCond .eq 18, 3) := by decide +kernel
theorem dX5_reportFailure_7 : decode cX5_reportFailure 7 = .ok (.aload_n 0, 1) := by decide +kernel
theorem dX5_reportFailure_8 : decode cX5_reportFailure 8 = .ok (.getfield 43, 3) := by decide +kernel
theorem dX5_reportFailure_11 : decode cX5_reportFailure 11 = .ok (.sipush 10000, 3) := by decide +kernel
theorem dX5_reportFailure_14 : decode cX5_reportFailure 14 = .ok (.aload_n 0, 1) := by decide +kernel
theorem dX5_reportFailure_15 : decode cX5_reportFailure 15 = .ok (.getfield 88, 3) := by decide +kernel
theorem dX5_reportFailure_18 : decode cX5_reportFailure 18 = .ok (.iadd, 1) := by decide +kernel
theorem dX5_reportFailure_19 : decode cX5_reportFailure 19 = .ok (.invokevirtual 289, 3) := by decide +kernel
theorem dX5_reportFailure_22 : decode cX5_reportFailure 22 = .ok (.return_, 1) := by decide +kernel
theorem dX5_fail_0 : decode cX5_fail 0 = .ok (.aload_n 0, 1) := by decide +kernel
theorem dX5_fail_1 : decode cX5_fail 1 = .ok (.iconst 1, 1) := by decide +kernel
theorem dX5_fail_2 : decode cX5_fail 2 = .ok (.putfield 82, 3) := by decide +kernel
theorem dX5_fail_5 : decode cX5_fail 5 = .ok (.aload_n 0, 1) := by decide +kernel
theorem dX5_fail_6 : decode cX5_fail 6 = .ok (.iload_n 1, 1) := by decide +kernel
theorem dX5_fail_7 : decode cX5_fail 7 = .ok (.putfield 88, 3) := by decide +kernel
theorem dX5_fail_10 : decode cX5_fail 10 = .ok (.return_, 1) := by decide +kernel
theorem dX5_endWith_0 : decode cX5_endWith 0 = .ok (.aload_n 0, 1) := by decide +kernel
theorem dX5_endWith_1 : decode cX5_endWith 1 = .ok (.iload_n 2, 1) := by decide +kernel
theorem dX5_endWith_2 : decode cX5_endWith 2 = .ok (.putfield 85, 3) := by decide +kernel
theorem dX5_endWith_5 : decode cX5_endWith 5 = .ok (.aload_n 0, 1) := by decide +kernel
theorem dX5_endWith_6 : decode cX5_endWith 6 = .ok (.iload_n 1, 1) := by decide +kernel
theorem dX5_endWith_7 : decode cX5_endWith 7 = .ok (.putfield 88, 3) := by decide +kernel
theorem dX5_endWith_10 : decode cX5_endWith 10 = .ok (.return_, 1) := by decide +kernel
theorem dX5_countRun_0 : decode cX5_countRun 0 = .ok (.iload_n 1, 1) := by decide +kernel
theorem dX5_countRun_1 : decode cX5_countRun 1 = .ok (.iconst 1, 1) := by decide +kernel
theorem dX5_countRun_2 : decode cX5_countRun 2 = .ok (.if_icmp .ne 21, 3) := by decide +kernel
theorem dX5_countRun_5 : decode cX5_countRun 5 = .ok (.aload_n 0, 1) := by decide +kernel
theorem dX5_countRun_6 : decode cX5_countRun 6 = .ok (.dup, 1) := by decide +kernel
theorem dX5_countRun_7 : decode cX5_countRun 7 = .ok (.getfield 73, 3) := by decide +kernel
theorem dX5_countRun_10 : decode cX5_countRun 10 = .ok (.iconst 1, 1) := by decide +kernel
theorem dX5_countRun_11 : decode cX5_countRun 11 = .ok (.iadd, 1) := by decide +kernel
theorem dX5_countRun_12 : decode cX5_countRun 12 = .ok (.putfield 73, 3) := by decide +kernel
theorem dX5_countRun_15 : decode cX5_countRun 15 = .ok (.aload_n 0, 1) := by decide +kernel
theorem dX5_countRun_16 : decode cX5_countRun 16 = .ok (.iconst 0, 1) := by decide +kernel
theorem dX5_countRun_17 : decode cX5_countRun 17 = .ok (.putfield 76, 3) := by decide +kernel
theorem dX5_countRun_20 : decode cX5_countRun 20 = .ok (.goto 13, 3) := by decide +kernel
theorem dX5_countRun_23 : decode cX5_countRun 23 = .ok (.aload_n 0, 1) := by decide +kernel
theorem dX5_countRun_24 : decode cX5_countRun 24 = .ok (.dup, 1) := by decide +kernel
theorem dX5_countRun_25 : decode cX5_countRun 25 = .ok (.getfield 76, 3) := by decide +kernel
theorem dX5_countRun_28 : decode cX5_countRun 28 = .ok (.iconst 1, 1) := by decide +kernel
theorem dX5_countRun_29 : decode cX5_countRun 29 = .ok (.iadd, 1) := by decide +kernel
theorem dX5_countRun_30 : decode cX5_countRun 30 = .ok (.putfield 76, 3) := by decide +kernel
theorem dX5_countRun_33 : decode cX5_countRun 33 = .ok (.return_, 1) := by decide +kernel
theorem dX5_run_0 : decode cX5_run 0 = .ok (.aload_n 0, 1) := by decide +kernel
theorem dX5_run_1 : decode cX5_run 1 = .ok (.iload_n 3, 1) := by decide +kernel
theorem dX5_run_2 : decode cX5_run 2 = .ok (.invokevirtual 292, 3) := by decide +kernel
theorem dX5_run_5 : decode cX5_run 5 = .ok (.aload_n 0, 1) := by decide +kernel
theorem dX5_run_6 : decode cX5_run 6 = .ok (.iconst 0, 1) := by decide +kernel
theorem dX5_run_7 : decode cX5_run 7 = .ok (.putfield 82, 3) := by decide +kernel
theorem dX5_run_10 : decode cX5_run 10 = .ok (.aload_n 0, 1) := by decide +kernel
theorem dX5_run_11 : decode cX5_run 11 = .ok (.iconst 0, 1) := by decide +kernel
theorem dX5_run_12 : decode cX5_run 12 = .ok (.iconst 0, 1) := by decide +kernel
theorem dX5_run_13 : decode cX5_run 13 = .ok (.invokevirtual 295, 3) := by decide +kernel
theorem dX5_run_16 : decode cX5_run 16 = .ok (.aload_n 0, 1) := by decide +kernel
theorem dX5_run_17 : decode cX5_run 17 = .ok (.getfield 12, 3) := by decide +kernel
theorem dX5_run_20 : decode cX5_run 20 = .ok (.iload_n 1, 1) := by decide +kernel
theorem dX5_run_21 : decode cX5_run 21 = .ok (.invokevirtual 106, 3) := by decide +kernel
theorem dX5_run_24 : decode cX5_run 24 = .ok (.istore 4, 2) := by decide +kernel
theorem dX5_run_26 : decode cX5_run 26 = .ok (.iconst 0, 1) := by decide +kernel
theorem dX5_run_27 : decode cX5_run 27 = .ok (.istore 5, 2) := by decide +kernel
theorem dX5_run_29 : decode cX5_run 29 = .ok (.iload 5, 2) := by decide +kernel
theorem dX5_run_31 : decode cX5_run 31 = .ok (.iload 4, 2) := by decide +kernel
theorem dX5_run_33 : decode cX5_run 33 = .ok (.if_icmp .ge 52, 3) := by decide +kernel
theorem dX5_run_36 : decode cX5_run 36 = .ok (.aload_n 0, 1) := by decide +kernel
theorem dX5_run_37 : decode cX5_run 37 = .ok (.getfield 82, 3) := by decide +kernel
theorem dX5_run_40 : decode cX5_run 40 = .ok (.ifCond .ne 45, 3) := by decide +kernel
theorem dX5_run_43 : decode cX5_run 43 = .ok (.aload_n 0, 1) := by decide +kernel
theorem dX5_run_44 : decode cX5_run 44 = .ok (.aload_n 0, 1) := by decide +kernel
theorem dX5_run_45 : decode cX5_run 45 = .ok (.getfield 12, 3) := by decide +kernel
theorem dX5_run_48 : decode cX5_run 48 = .ok (.iload_n 1, 1) := by decide +kernel
theorem dX5_run_49 : decode cX5_run 49 = .ok (.iload 5, 2) := by decide +kernel
theorem dX5_run_51 : decode cX5_run 51 = .ok (.invokevirtual 299, 3) := by decide +kernel
theorem dX5_run_54 : decode cX5_run 54 = .ok (.aload_n 0, 1) := by decide +kernel
theorem dX5_run_55 : decode cX5_run 55 = .ok (.getfield 12, 3) := by decide +kernel
theorem dX5_run_58 : decode cX5_run 58 = .ok (.iload_n 1, 1) := by decide +kernel
theorem dX5_run_59 : decode cX5_run 59 = .ok (.iload 5, 2) := by decide +kernel
theorem dX5_run_61 : decode cX5_run 61 = .ok (.invokevirtual 303, 3) := by decide +kernel
theorem dX5_run_64 : decode cX5_run 64 = .ok (.aload_n 0, 1) := by decide +kernel
theorem dX5_run_65 : decode cX5_run 65 = .ok (.getfield 12, 3) := by decide +kernel
theorem dX5_run_68 : decode cX5_run 68 = .ok (.iload_n 1, 1) := by decide +kernel
theorem dX5_run_69 : decode cX5_run 69 = .ok (.iload 5, 2) := by decide +kernel
theorem dX5_run_71 : decode cX5_run 71 = .ok (.invokevirtual 306, 3) := by decide +kernel
theorem dX5_run_74 : decode cX5_run 74 = .ok (.iload_n 2, 1) := by decide +kernel
theorem dX5_run_75 : decode cX5_run 75 = .ok (.iload_n 3, 1) := by decide +kernel
theorem dX5_run_76 : decode cX5_run 76 = .ok (.invokevirtual 309, 3) := by decide +kernel
theorem dX5_run_79 : decode cX5_run 79 = .ok (.iinc 5 1, 3) := by decide +kernel
theorem dX5_run_82 : decode cX5_run 82 = .ok (.goto (-53), 3) := by decide +kernel
theorem dX5_run_85 : decode cX5_run 85 = .ok (.return_, 1) := by decide +kernel
theorem dX5_doStep_0 : decode cX5_doStep 0 = .ok (.iload_n 1, 1) := by decide +kernel
theorem dX5_doStep_1 : decode cX5_doStep 1 = .ok (.tableswitch 307 0 15 #[79, 100, 111, 121, 133, 145, 156, 174, 186, 199, 210, 218, 246, 268, 284, 292], 79) := by decide +kernel
theorem dX5_doStep_80 : decode cX5_doStep 80 = .ok (.aload_n 0, 1) := by decide +kernel
theorem dX5_doStep_81 : decode cX5_doStep 81 = .ok (.getfield 39, 3) := by decide +kernel
theorem dX5_doStep_84 : decode cX5_doStep 84 = .ok (.iload_n 3, 1) := by decide +kernel
theorem dX5_doStep_85 : decode cX5_doStep 85 = .ok (.iconst 1, 1) := by decide +kernel
theorem dX5_doStep_86 : decode cX5_doStep 86 = .ok (.if_icmp .ne 8, 3) := by decide +kernel
theorem dX5_doStep_89 : decode cX5_doStep 89 = .ok (.iload 4, 2) := by decide +kernel
theorem dX5_doStep_91 : decode cX5_doStep 91 = .ok (.goto 4, 3) := by decide +kernel
theorem dX5_doStep_94 : decode cX5_doStep 94 = .ok (.iload_n 2, 1) := by decide +kernel
theorem dX5_doStep_95 : decode cX5_doStep 95 = .ok (.invokevirtual 289, 3) := by decide +kernel
theorem dX5_doStep_98 : decode cX5_doStep 98 = .ok (.goto 210, 3) := by decide +kernel
theorem dX5_doStep_101 : decode cX5_doStep 101 = .ok (.aload_n 0, 1) := by decide +kernel
theorem dX5_doStep_102 : decode cX5_doStep 102 = .ok (.iload_n 3, 1) := by decide +kernel
theorem dX5_doStep_103 : decode cX5_doStep 103 = .ok (.iload_n 2, 1) := by decide +kernel
theorem dX5_doStep_104 : decode cX5_doStep 104 = .ok (.iload 4, 2) := by decide +kernel
theorem dX5_doStep_106 : decode cX5_doStep 106 = .ok (.invokevirtual 313, 3) := by decide +kernel
theorem dX5_doStep_109 : decode cX5_doStep 109 = .ok (.goto 199, 3) := by decide +kernel
theorem dX5_doStep_112 : decode cX5_doStep 112 = .ok (.aload_n 0, 1) := by decide +kernel
theorem dX5_doStep_113 : decode cX5_doStep 113 = .ok (.iload_n 2, 1) := by decide +kernel
theorem dX5_doStep_114 : decode cX5_doStep 114 = .ok (.iload 4, 2) := by decide +kernel
theorem dX5_doStep_116 : decode cX5_doStep 116 = .ok (.invokevirtual 316, 3) := by decide +kernel
theorem dX5_doStep_119 : decode cX5_doStep 119 = .ok (.goto 189, 3) := by decide +kernel
theorem dX5_doStep_122 : decode cX5_doStep 122 = .ok (.aload_n 0, 1) := by decide +kernel
theorem dX5_doStep_123 : decode cX5_doStep 123 = .ok (.iload_n 2, 1) := by decide +kernel
theorem dX5_doStep_124 : decode cX5_doStep 124 = .ok (.iload 4, 2) := by decide +kernel
theorem dX5_doStep_126 : decode cX5_doStep 126 = .ok (.iload_n 3, 1) := by decide +kernel
theorem dX5_doStep_127 : decode cX5_doStep 127 = .ok (.iconst 0, 1) := by decide +kernel
theorem dX5_doStep_128 : decode cX5_doStep 128 = .ok (.invokevirtual 319, 3) := by decide +kernel
theorem dX5_doStep_131 : decode cX5_doStep 131 = .ok (.goto 177, 3) := by decide +kernel
theorem dX5_doStep_134 : decode cX5_doStep 134 = .ok (.aload_n 0, 1) := by decide +kernel
theorem dX5_doStep_135 : decode cX5_doStep 135 = .ok (.iload_n 2, 1) := by decide +kernel
theorem dX5_doStep_136 : decode cX5_doStep 136 = .ok (.iload 4, 2) := by decide +kernel
theorem dX5_doStep_138 : decode cX5_doStep 138 = .ok (.iload_n 3, 1) := by decide +kernel
theorem dX5_doStep_139 : decode cX5_doStep 139 = .ok (.iconst 1, 1) := by decide +kernel
theorem dX5_doStep_140 : decode cX5_doStep 140 = .ok (.invokevirtual 319, 3) := by decide +kernel
theorem dX5_doStep_143 : decode cX5_doStep 143 = .ok (.goto 165, 3) := by decide +kernel
theorem dX5_doStep_146 : decode cX5_doStep 146 = .ok (.aload_n 0, 1) := by decide +kernel
theorem dX5_doStep_147 : decode cX5_doStep 147 = .ok (.getfield 58, 3) := by decide +kernel
theorem dX5_doStep_150 : decode cX5_doStep 150 = .ok (.iload_n 2, 1) := by decide +kernel
theorem dX5_doStep_151 : decode cX5_doStep 151 = .ok (.invokevirtual 283, 3) := by decide +kernel
theorem dX5_doStep_154 : decode cX5_doStep 154 = .ok (.goto 154, 3) := by decide +kernel
theorem dX5_doStep_157 : decode cX5_doStep 157 = .ok (.aload_n 0, 1) := by decide +kernel
theorem dX5_doStep_158 : decode cX5_doStep 158 = .ok (.iload_n 3, 1) := by decide +kernel
theorem dX5_doStep_159 : decode cX5_doStep 159 = .ok (.iconst 1, 1) := by decide +kernel
theorem dX5_doStep_160 : decode cX5_doStep 160 = .ok (.if_icmp .ne 8, 3) := by decide +kernel
theorem dX5_doStep_163 : decode cX5_doStep 163 = .ok (.iload 4, 2) := by decide +kernel
theorem dX5_doStep_165 : decode cX5_doStep 165 = .ok (.goto 4, 3) := by decide +kernel
theorem dX5_doStep_168 : decode cX5_doStep 168 = .ok (.iload_n 2, 1) := by decide +kernel
theorem dX5_doStep_169 : decode cX5_doStep 169 = .ok (.invokevirtual 323, 3) := by decide +kernel
theorem dX5_doStep_172 : decode cX5_doStep 172 = .ok (.goto 136, 3) := by decide +kernel
theorem dX5_doStep_175 : decode cX5_doStep 175 = .ok (.aload_n 0, 1) := by decide +kernel
theorem dX5_doStep_176 : decode cX5_doStep 176 = .ok (.iload_n 2, 1) := by decide +kernel
theorem dX5_doStep_177 : decode cX5_doStep 177 = .ok (.iload 4, 2) := by decide +kernel
theorem dX5_doStep_179 : decode cX5_doStep 179 = .ok (.iload 5, 2) := by decide +kernel
theorem dX5_doStep_181 : decode cX5_doStep 181 = .ok (.invokevirtual 326, 3) := by decide +kernel
theorem dX5_doStep_184 : decode cX5_doStep 184 = .ok (.goto 124, 3) := by decide +kernel
theorem dX5_doStep_187 : decode cX5_doStep 187 = .ok (.aload_n 0, 1) := by decide +kernel
theorem dX5_doStep_188 : decode cX5_doStep 188 = .ok (.iload_n 2, 1) := by decide +kernel
theorem dX5_doStep_189 : decode cX5_doStep 189 = .ok (.iload_n 3, 1) := by decide +kernel
theorem dX5_doStep_190 : decode cX5_doStep 190 = .ok (.iload 4, 2) := by decide +kernel
theorem dX5_doStep_192 : decode cX5_doStep 192 = .ok (.iload 5, 2) := by decide +kernel
theorem dX5_doStep_194 : decode cX5_doStep 194 = .ok (.invokevirtual 329, 3) := by decide +kernel
theorem dX5_doStep_197 : decode cX5_doStep 197 = .ok (.goto 111, 3) := by decide +kernel
theorem dX5_doStep_200 : decode cX5_doStep 200 = .ok (.aload_n 0, 1) := by decide +kernel
theorem dX5_doStep_201 : decode cX5_doStep 201 = .ok (.iload_n 2, 1) := by decide +kernel
theorem dX5_doStep_202 : decode cX5_doStep 202 = .ok (.iload_n 3, 1) := by decide +kernel
theorem dX5_doStep_203 : decode cX5_doStep 203 = .ok (.iload 4, 2) := by decide +kernel
theorem dX5_doStep_205 : decode cX5_doStep 205 = .ok (.invokevirtual 332, 3) := by decide +kernel
theorem dX5_doStep_208 : decode cX5_doStep 208 = .ok (.goto 100, 3) := by decide +kernel
theorem dX5_doStep_211 : decode cX5_doStep 211 = .ok (.aload_n 0, 1) := by decide +kernel
theorem dX5_doStep_212 : decode cX5_doStep 212 = .ok (.iload_n 2, 1) := by decide +kernel
theorem dX5_doStep_213 : decode cX5_doStep 213 = .ok (.invokevirtual 335, 3) := by decide +kernel
theorem dX5_doStep_216 : decode cX5_doStep 216 = .ok (.goto 92, 3) := by decide +kernel
theorem dX5_doStep_219 : decode cX5_doStep 219 = .ok (.aload_n 0, 1) := by decide +kernel
theorem dX5_doStep_220 : decode cX5_doStep 220 = .ok (.getfield 51, 3) := by decide +kernel
theorem dX5_doStep_223 : decode cX5_doStep 223 = .ok (.aload_n 0, 1) := by decide +kernel
theorem dX5_doStep_224 : decode cX5_doStep 224 = .ok (.getfield 16, 3) := by decide +kernel
theorem dX5_doStep_227 : decode cX5_doStep 227 = .ok (.iload_n 2, 1) := by decide +kernel
theorem dX5_doStep_228 : decode cX5_doStep 228 = .ok (.iaload, 1) := by decide +kernel
theorem dX5_doStep_229 : decode cX5_doStep 229 = .ok (.iload_n 3, 1) := by decide +kernel
theorem dX5_doStep_230 : decode cX5_doStep 230 = .ok (.iconst 1, 1) := by decide +kernel
theorem dX5_doStep_231 : decode cX5_doStep 231 = .ok (.if_icmp .ne 7, 3) := by decide +kernel
theorem dX5_doStep_234 : decode cX5_doStep 234 = .ok (.iconst 2, 1) := by decide +kernel
theorem dX5_doStep_235 : decode cX5_doStep 235 = .ok (.goto 4, 3) := by decide +kernel
theorem dX5_doStep_238 : decode cX5_doStep 238 = .ok (.iconst 1, 1) := by decide +kernel
theorem dX5_doStep_239 : decode cX5_doStep 239 = .ok (.iload 4, 2) := by decide +kernel
theorem dX5_doStep_241 : decode cX5_doStep 241 = .ok (.invokevirtual 255, 3) := by decide +kernel
theorem dX5_doStep_244 : decode cX5_doStep 244 = .ok (.goto 64, 3) := by decide +kernel
theorem dX5_doStep_247 : decode cX5_doStep 247 = .ok (.aload_n 0, 1) := by decide +kernel
theorem dX5_doStep_248 : decode cX5_doStep 248 = .ok (.getfield 51, 3) := by decide +kernel
theorem dX5_doStep_251 : decode cX5_doStep 251 = .ok (.aload_n 0, 1) := by decide +kernel
theorem dX5_doStep_252 : decode cX5_doStep 252 = .ok (.getfield 16, 3) := by decide +kernel
theorem dX5_doStep_255 : decode cX5_doStep 255 = .ok (.iload_n 2, 1) := by decide +kernel
theorem dX5_doStep_256 : decode cX5_doStep 256 = .ok (.iaload, 1) := by decide +kernel
theorem dX5_doStep_257 : decode cX5_doStep 257 = .ok (.aload_n 0, 1) := by decide +kernel
theorem dX5_doStep_258 : decode cX5_doStep 258 = .ok (.getfield 16, 3) := by decide +kernel
theorem dX5_doStep_261 : decode cX5_doStep 261 = .ok (.iload_n 3, 1) := by decide +kernel
theorem dX5_doStep_262 : decode cX5_doStep 262 = .ok (.iaload, 1) := by decide +kernel
theorem dX5_doStep_263 : decode cX5_doStep 263 = .ok (.invokevirtual 258, 3) := by decide +kernel
theorem dX5_doStep_266 : decode cX5_doStep 266 = .ok (.goto 42, 3) := by decide +kernel
theorem dX5_doStep_269 : decode cX5_doStep 269 = .ok (.aload_n 0, 1) := by decide +kernel
theorem dX5_doStep_270 : decode cX5_doStep 270 = .ok (.iload_n 2, 1) := by decide +kernel
theorem dX5_doStep_271 : decode cX5_doStep 271 = .ok (.iload_n 3, 1) := by decide +kernel
theorem dX5_doStep_272 : decode cX5_doStep 272 = .ok (.bipush 16, 2) := by decide +kernel
theorem dX5_doStep_274 : decode cX5_doStep 274 = .ok (.irem, 1) := by decide +kernel
theorem dX5_doStep_275 : decode cX5_doStep 275 = .ok (.iload_n 3, 1) := by decide +kernel
theorem dX5_doStep_276 : decode cX5_doStep 276 = .ok (.bipush 16, 2) := by decide +kernel
theorem dX5_doStep_278 : decode cX5_doStep 278 = .ok (.idiv, 1) := by decide +kernel
theorem dX5_doStep_279 : decode cX5_doStep 279 = .ok (.invokevirtual 338, 3) := by decide +kernel
theorem dX5_doStep_282 : decode cX5_doStep 282 = .ok (.goto 26, 3) := by decide +kernel
theorem dX5_doStep_285 : decode cX5_doStep 285 = .ok (.aload_n 0, 1) := by decide +kernel
theorem dX5_doStep_286 : decode cX5_doStep 286 = .ok (.iload_n 2, 1) := by decide +kernel
theorem dX5_doStep_287 : decode cX5_doStep 287 = .ok (.invokevirtual 341, 3) := by decide +kernel
theorem dX5_doStep_290 : decode cX5_doStep 290 = .ok (.goto 18, 3) := by decide +kernel
theorem dX5_doStep_293 : decode cX5_doStep 293 = .ok (.aload_n 0, 1) := by decide +kernel
theorem dX5_doStep_294 : decode cX5_doStep 294 = .ok (.getfield 16, 3) := by decide +kernel
theorem dX5_doStep_297 : decode cX5_doStep 297 = .ok (.iload_n 2, 1) := by decide +kernel
theorem dX5_doStep_298 : decode cX5_doStep 298 = .ok (.aload_n 0, 1) := by decide +kernel
theorem dX5_doStep_299 : decode cX5_doStep 299 = .ok (.getfield 16, 3) := by decide +kernel
theorem dX5_doStep_302 : decode cX5_doStep 302 = .ok (.iload_n 3, 1) := by decide +kernel
theorem dX5_doStep_303 : decode cX5_doStep 303 = .ok (.iaload, 1) := by decide +kernel
theorem dX5_doStep_304 : decode cX5_doStep 304 = .ok (.iastore, 1) := by decide +kernel
theorem dX5_doStep_305 : decode cX5_doStep 305 = .ok (.goto 3, 3) := by decide +kernel
theorem dX5_doStep_308 : decode cX5_doStep 308 = .ok (.return_, 1) := by decide +kernel
theorem dX5_postStep_0 : decode cX5_postStep 0 = .ok (.aload_n 0, 1) := by decide +kernel
theorem dX5_postStep_1 : decode cX5_postStep 1 = .ok (.invokevirtual 129, 3) := by decide +kernel
theorem dX5_postStep_4 : decode cX5_postStep 4 = .ok (.bipush 40, 2) := by decide +kernel
theorem dX5_postStep_6 : decode cX5_postStep 6 = .ok (.if_icmp .lt 12, 3) := by decide +kernel
theorem dX5_postStep_9 : decode cX5_postStep 9 = .ok (.aload_n 0, 1) := by decide +kernel
theorem dX5_postStep_10 : decode cX5_postStep 10 = .ok (.bipush (-2), 2) := by decide +kernel
theorem dX5_postStep_12 : decode cX5_postStep 12 = .ok (.invokevirtual 323, 3) := by decide +kernel
theorem dX5_postStep_15 : decode cX5_postStep 15 = .ok (.goto 15, 3) := by decide +kernel
theorem dX5_postStep_18 : decode cX5_postStep 18 = .ok (.aload_n 0, 1) := by decide +kernel
theorem dX5_postStep_19 : decode cX5_postStep 19 = .ok (.getfield 25, 3) := by decide +kernel
theorem dX5_postStep_22 : decode cX5_postStep 22 = .ok (.iload_n 1, 1) := by decide +kernel
theorem dX5_postStep_23 : decode cX5_postStep 23 = .ok (.aaload, 1) := by decide +kernel
theorem dX5_postStep_24 : decode cX5_postStep 24 = .ok (.iconst 0, 1) := by decide +kernel
theorem dX5_postStep_25 : decode cX5_postStep 25 = .ok (.iload_n 2, 1) := by decide +kernel
theorem dX5_postStep_26 : decode cX5_postStep 26 = .ok (.iload_n 3, 1) := by decide +kernel
theorem dX5_postStep_27 : decode cX5_postStep 27 = .ok (.invokevirtual 135, 3) := by decide +kernel
theorem dX5_postStep_30 : decode cX5_postStep 30 = .ok (.return_, 1) := by decide +kernel
theorem dX5_microStep_0 : decode cX5_microStep 0 = .ok (.aload_n 0, 1) := by decide +kernel
theorem dX5_microStep_1 : decode cX5_microStep 1 = .ok (.getfield 29, 3) := by decide +kernel
theorem dX5_microStep_4 : decode cX5_microStep 4 = .ok (.invokevirtual 148, 3) := by decide +kernel
theorem dX5_microStep_7 : decode cX5_microStep 7 = .ok (.bipush 60, 2) := by decide +kernel
theorem dX5_microStep_9 : decode cX5_microStep 9 = .ok (.if_icmp .lt 12, 3) := by decide +kernel
theorem dX5_microStep_12 : decode cX5_microStep 12 = .ok (.aload_n 0, 1) := by decide +kernel
theorem dX5_microStep_13 : decode cX5_microStep 13 = .ok (.bipush (-2), 2) := by decide +kernel
theorem dX5_microStep_15 : decode cX5_microStep 15 = .ok (.invokevirtual 323, 3) := by decide +kernel
theorem dX5_microStep_18 : decode cX5_microStep 18 = .ok (.goto 13, 3) := by decide +kernel
theorem dX5_microStep_21 : decode cX5_microStep 21 = .ok (.aload_n 0, 1) := by decide +kernel
theorem dX5_microStep_22 : decode cX5_microStep 22 = .ok (.getfield 29, 3) := by decide +kernel
theorem dX5_microStep_25 : decode cX5_microStep 25 = .ok (.iconst 0, 1) := by decide +kernel
theorem dX5_microStep_26 : decode cX5_microStep 26 = .ok (.iload_n 1, 1) := by decide +kernel
theorem dX5_microStep_27 : decode cX5_microStep 27 = .ok (.iload_n 2, 1) := by decide +kernel
theorem dX5_microStep_28 : decode cX5_microStep 28 = .ok (.invokevirtual 135, 3) := by decide +kernel
theorem dX5_microStep_31 : decode cX5_microStep 31 = .ok (.return_, 1) := by decide +kernel
theorem dX5_timerStep_0 : decode cX5_timerStep 0 = .ok (.aload_n 0, 1) := by decide +kernel
theorem dX5_timerStep_1 : decode cX5_timerStep 1 = .ok (.getfield 58, 3) := by decide +kernel
theorem dX5_timerStep_4 : decode cX5_timerStep 4 = .ok (.invokevirtual 344, 3) := by decide +kernel
theorem dX5_timerStep_7 : decode cX5_timerStep 7 = .ok (.ifCond .eq 12, 3) := by decide +kernel
theorem dX5_timerStep_10 : decode cX5_timerStep 10 = .ok (.aload_n 0, 1) := by decide +kernel
theorem dX5_timerStep_11 : decode cX5_timerStep 11 = .ok (.bipush (-2), 2) := by decide +kernel
theorem dX5_timerStep_13 : decode cX5_timerStep 13 = .ok (.invokevirtual 323, 3) := by decide +kernel
theorem dX5_timerStep_16 : decode cX5_timerStep 16 = .ok (.goto 25, 3) := by decide +kernel
theorem dX5_timerStep_19 : decode cX5_timerStep 19 = .ok (.aload_n 0, 1) := by decide +kernel
theorem dX5_timerStep_20 : decode cX5_timerStep 20 = .ok (.getfield 58, 3) := by decide +kernel
theorem dX5_timerStep_23 : decode cX5_timerStep 23 = .ok (.iload_n 1, 1) := by decide +kernel
theorem dX5_timerStep_24 : decode cX5_timerStep 24 = .ok (.iload_n 2, 1) := by decide +kernel
theorem dX5_timerStep_25 : decode cX5_timerStep 25 = .ok (.iload_n 3, 1) := by decide +kernel
theorem dX5_timerStep_26 : decode cX5_timerStep 26 = .ok (.iload 4, 2) := by decide +kernel
theorem dX5_timerStep_28 : decode cX5_timerStep 28 = .ok (.aload_n 0, 1) := by decide +kernel
theorem dX5_timerStep_29 : decode cX5_timerStep 29 = .ok (.getfield 79, 3) := by decide +kernel
theorem dX5_timerStep_32 : decode cX5_timerStep 32 = .ok (.iconst 1, 1) := by decide +kernel
theorem dX5_timerStep_33 : decode cX5_timerStep 33 = .ok (.iadd, 1) := by decide +kernel
theorem dX5_timerStep_34 : decode cX5_timerStep 34 = .ok (.aload_n 0, 1) := by decide +kernel
theorem dX5_timerStep_35 : decode cX5_timerStep 35 = .ok (.getfield 66, 3) := by decide +kernel
theorem dX5_timerStep_38 : decode cX5_timerStep 38 = .ok (.invokevirtual 347, 3) := by decide +kernel
theorem dX5_timerStep_41 : decode cX5_timerStep 41 = .ok (.return_, 1) := by decide +kernel
theorem dX5_frameStep_0 : decode cX5_frameStep 0 = .ok (.aload_n 0, 1) := by decide +kernel
theorem dX5_frameStep_1 : decode cX5_frameStep 1 = .ok (.getfield 33, 3) := by decide +kernel
theorem dX5_frameStep_4 : decode cX5_frameStep 4 = .ok (.invokevirtual 148, 3) := by decide +kernel
theorem dX5_frameStep_7 : decode cX5_frameStep 7 = .ok (.bipush 8, 2) := by decide +kernel
theorem dX5_frameStep_9 : decode cX5_frameStep 9 = .ok (.if_icmp .lt 12, 3) := by decide +kernel
theorem dX5_frameStep_12 : decode cX5_frameStep 12 = .ok (.aload_n 0, 1) := by decide +kernel
theorem dX5_frameStep_13 : decode cX5_frameStep 13 = .ok (.bipush (-2), 2) := by decide +kernel
theorem dX5_frameStep_15 : decode cX5_frameStep 15 = .ok (.invokevirtual 323, 3) := by decide +kernel
theorem dX5_frameStep_18 : decode cX5_frameStep 18 = .ok (.goto 13, 3) := by decide +kernel
theorem dX5_frameStep_21 : decode cX5_frameStep 21 = .ok (.aload_n 0, 1) := by decide +kernel
theorem dX5_frameStep_22 : decode cX5_frameStep 22 = .ok (.getfield 33, 3) := by decide +kernel
theorem dX5_frameStep_25 : decode cX5_frameStep 25 = .ok (.iconst 0, 1) := by decide +kernel
theorem dX5_frameStep_26 : decode cX5_frameStep 26 = .ok (.iload_n 1, 1) := by decide +kernel
theorem dX5_frameStep_27 : decode cX5_frameStep 27 = .ok (.iconst 0, 1) := by decide +kernel
theorem dX5_frameStep_28 : decode cX5_frameStep 28 = .ok (.invokevirtual 135, 3) := by decide +kernel
theorem dX5_frameStep_31 : decode cX5_frameStep 31 = .ok (.return_, 1) := by decide +kernel
theorem dX5_mayCall_0 : decode cX5_mayCall 0 = .ok (.iload_n 1, 1) := by decide +kernel
theorem dX5_mayCall_1 : decode cX5_mayCall 1 = .ok (.bipush 6, 2) := by decide +kernel
theorem dX5_mayCall_3 : decode cX5_mayCall 3 = .ok (.if_icmp .ge 16, 3) := by decide +kernel
theorem dX5_mayCall_6 : decode cX5_mayCall 6 = .ok (.aload_n 0, 1) := by decide +kernel
theorem dX5_mayCall_7 : decode cX5_mayCall 7 = .ok (.getfield 76, 3) := by decide +kernel
theorem dX5_mayCall_10 : decode cX5_mayCall 10 = .ok (.bipush 30, 2) := by decide +kernel
theorem dX5_mayCall_12 : decode cX5_mayCall 12 = .ok (.if_icmp .ge 7, 3) := by decide +kernel
theorem dX5_mayCall_15 : decode cX5_mayCall 15 = .ok (.iconst 1, 1) := by decide +kernel
theorem dX5_mayCall_16 : decode cX5_mayCall 16 = .ok (.goto 4, 3) := by decide +kernel
theorem dX5_mayCall_19 : decode cX5_mayCall 19 = .ok (.iconst 0, 1) := by decide +kernel
theorem dX5_mayCall_20 : decode cX5_mayCall 20 = .ok (.ireturn, 1) := by decide +kernel
theorem dX5_callStep_0 : decode cX5_callStep 0 = .ok (.aload_n 0, 1) := by decide +kernel
theorem dX5_callStep_1 : decode cX5_callStep 1 = .ok (.iload_n 3, 1) := by decide +kernel
theorem dX5_callStep_2 : decode cX5_callStep 2 = .ok (.invokevirtual 351, 3) := by decide +kernel
theorem dX5_callStep_5 : decode cX5_callStep 5 = .ok (.ifCond .eq 15, 3) := by decide +kernel
theorem dX5_callStep_8 : decode cX5_callStep 8 = .ok (.aload_n 0, 1) := by decide +kernel
theorem dX5_callStep_9 : decode cX5_callStep 9 = .ok (.iload_n 1, 1) := by decide +kernel
theorem dX5_callStep_10 : decode cX5_callStep 10 = .ok (.iload_n 2, 1) := by decide +kernel
theorem dX5_callStep_11 : decode cX5_callStep 11 = .ok (.iload_n 3, 1) := by decide +kernel
theorem dX5_callStep_12 : decode cX5_callStep 12 = .ok (.iconst 1, 1) := by decide +kernel
theorem dX5_callStep_13 : decode cX5_callStep 13 = .ok (.iadd, 1) := by decide +kernel
theorem dX5_callStep_14 : decode cX5_callStep 14 = .ok (.invokevirtual 225, 3) := by decide +kernel
theorem dX5_callStep_17 : decode cX5_callStep 17 = .ok (.goto 8, 3) := by decide +kernel
theorem dX5_callStep_20 : decode cX5_callStep 20 = .ok (.aload_n 0, 1) := by decide +kernel
theorem dX5_callStep_21 : decode cX5_callStep 21 = .ok (.iconst (-1), 1) := by decide +kernel
theorem dX5_callStep_22 : decode cX5_callStep 22 = .ok (.invokevirtual 323, 3) := by decide +kernel
theorem dX5_callStep_25 : decode cX5_callStep 25 = .ok (.return_, 1) := by decide +kernel
theorem dX5_tryStep_0 : decode cX5_tryStep 0 = .ok (.aload_n 0, 1) := by decide +kernel
theorem dX5_tryStep_1 : decode cX5_tryStep 1 = .ok (.iload 4, 2) := by decide +kernel
theorem dX5_tryStep_3 : decode cX5_tryStep 3 = .ok (.invokevirtual 351, 3) := by decide +kernel
theorem dX5_tryStep_6 : decode cX5_tryStep 6 = .ok (.ifCond .ne 9, 3) := by decide +kernel
theorem dX5_tryStep_9 : decode cX5_tryStep 9 = .ok (.aload_n 0, 1) := by decide +kernel
theorem dX5_tryStep_10 : decode cX5_tryStep 10 = .ok (.iconst (-1), 1) := by decide +kernel
theorem dX5_tryStep_11 : decode cX5_tryStep 11 = .ok (.invokevirtual 323, 3) := by decide +kernel
theorem dX5_tryStep_14 : decode cX5_tryStep 14 = .ok (.return_, 1) := by decide +kernel
theorem dX5_tryStep_15 : decode cX5_tryStep 15 = .ok (.aload_n 0, 1) := by decide +kernel
theorem dX5_tryStep_16 : decode cX5_tryStep 16 = .ok (.iload_n 1, 1) := by decide +kernel
theorem dX5_tryStep_17 : decode cX5_tryStep 17 = .ok (.iload_n 3, 1) := by decide +kernel
theorem dX5_tryStep_18 : decode cX5_tryStep 18 = .ok (.iload 4, 2) := by decide +kernel
theorem dX5_tryStep_20 : decode cX5_tryStep 20 = .ok (.iconst 1, 1) := by decide +kernel
theorem dX5_tryStep_21 : decode cX5_tryStep 21 = .ok (.iadd, 1) := by decide +kernel
theorem dX5_tryStep_22 : decode cX5_tryStep 22 = .ok (.invokevirtual 225, 3) := by decide +kernel
theorem dX5_tryStep_25 : decode cX5_tryStep 25 = .ok (.aload_n 0, 1) := by decide +kernel
theorem dX5_tryStep_26 : decode cX5_tryStep 26 = .ok (.getfield 82, 3) := by decide +kernel
theorem dX5_tryStep_29 : decode cX5_tryStep 29 = .ok (.ifCond .eq 14, 3) := by decide +kernel
theorem dX5_tryStep_32 : decode cX5_tryStep 32 = .ok (.aload_n 0, 1) := by decide +kernel
theorem dX5_tryStep_33 : decode cX5_tryStep 33 = .ok (.iload_n 2, 1) := by decide +kernel
theorem dX5_tryStep_34 : decode cX5_tryStep 34 = .ok (.aload_n 0, 1) := by decide +kernel
theorem dX5_tryStep_35 : decode cX5_tryStep 35 = .ok (.getfield 88, 3) := by decide +kernel
theorem dX5_tryStep_38 : decode cX5_tryStep 38 = .ok (.iload 4, 2) := by decide +kernel
theorem dX5_tryStep_40 : decode cX5_tryStep 40 = .ok (.invokevirtual 326, 3) := by decide +kernel
theorem dX5_tryStep_43 : decode cX5_tryStep 43 = .ok (.return_, 1) := by decide +kernel
theorem dX5_answerStep_0 : decode cX5_answerStep 0 = .ok (.iload_n 2, 1) := by decide +kernel
theorem dX5_answerStep_1 : decode cX5_answerStep 1 = .ok (.iconst 2, 1) := by decide +kernel
theorem dX5_answerStep_2 : decode cX5_answerStep 2 = .ok (.if_icmp .ne 44, 3) := by decide +kernel
theorem dX5_answerStep_5 : decode cX5_answerStep 5 = .ok (.aload_n 0, 1) := by decide +kernel
theorem dX5_answerStep_6 : decode cX5_answerStep 6 = .ok (.getfield 16, 3) := by decide +kernel
theorem dX5_answerStep_9 : decode cX5_answerStep 9 = .ok (.iload_n 1, 1) := by decide +kernel
theorem dX5_answerStep_10 : decode cX5_answerStep 10 = .ok (.iaload, 1) := by decide +kernel
theorem dX5_answerStep_11 : decode cX5_answerStep 11 = .ok (.iconst (-1), 1) := by decide +kernel
theorem dX5_answerStep_12 : decode cX5_answerStep 12 = .ok (.if_icmp .eq 7, 3) := by decide +kernel
theorem dX5_answerStep_15 : decode cX5_answerStep 15 = .ok (.iconst 1, 1) := by decide +kernel
theorem dX5_answerStep_16 : decode cX5_answerStep 16 = .ok (.goto 4, 3) := by decide +kernel
theorem dX5_answerStep_19 : decode cX5_answerStep 19 = .ok (.iconst 0, 1) := by decide +kernel
theorem dX5_answerStep_20 : decode cX5_answerStep 20 = .ok (.istore 4, 2) := by decide +kernel
theorem dX5_answerStep_22 : decode cX5_answerStep 22 = .ok (.aload_n 0, 1) := by decide +kernel
theorem dX5_answerStep_23 : decode cX5_answerStep 23 = .ok (.iload 4, 2) := by decide +kernel
theorem dX5_answerStep_25 : decode cX5_answerStep 25 = .ok (.ifCond .eq 12, 3) := by decide +kernel
theorem dX5_answerStep_28 : decode cX5_answerStep 28 = .ok (.aload_n 0, 1) := by decide +kernel
theorem dX5_answerStep_29 : decode cX5_answerStep 29 = .ok (.getfield 16, 3) := by decide +kernel
theorem dX5_answerStep_32 : decode cX5_answerStep 32 = .ok (.iload_n 1, 1) := by decide +kernel
theorem dX5_answerStep_33 : decode cX5_answerStep 33 = .ok (.iaload, 1) := by decide +kernel
theorem dX5_answerStep_34 : decode cX5_answerStep 34 = .ok (.goto 4, 3) := by decide +kernel
theorem dX5_answerStep_37 : decode cX5_answerStep 37 = .ok (.iconst 0, 1) := by decide +kernel
theorem dX5_answerStep_38 : decode cX5_answerStep 38 = .ok (.iload 4, 2) := by decide +kernel
theorem dX5_answerStep_40 : decode cX5_answerStep 40 = .ok (.invokevirtual 295, 3) := by decide +kernel
theorem dX5_answerStep_43 : decode cX5_answerStep 43 = .ok (.goto 18, 3) := by decide +kernel
theorem dX5_answerStep_46 : decode cX5_answerStep 46 = .ok (.aload_n 0, 1) := by decide +kernel
theorem dX5_answerStep_47 : decode cX5_answerStep 47 = .ok (.iload_n 2, 1) := by decide +kernel
theorem dX5_answerStep_48 : decode cX5_answerStep 48 = .ok (.iconst 1, 1) := by decide +kernel
theorem dX5_answerStep_49 : decode cX5_answerStep 49 = .ok (.if_icmp .ne 7, 3) := by decide +kernel
theorem dX5_answerStep_52 : decode cX5_answerStep 52 = .ok (.iload_n 3, 1) := by decide +kernel
theorem dX5_answerStep_53 : decode cX5_answerStep 53 = .ok (.goto 4, 3) := by decide +kernel
theorem dX5_answerStep_56 : decode cX5_answerStep 56 = .ok (.iload_n 1, 1) := by decide +kernel
theorem dX5_answerStep_57 : decode cX5_answerStep 57 = .ok (.iconst 0, 1) := by decide +kernel
theorem dX5_answerStep_58 : decode cX5_answerStep 58 = .ok (.invokevirtual 295, 3) := by decide +kernel
theorem dX5_answerStep_61 : decode cX5_answerStep 61 = .ok (.return_, 1) := by decide +kernel
theorem dX5_makeStep_0 : decode cX5_makeStep 0 = .ok (.aload_n 0, 1) := by decide +kernel
theorem dX5_makeStep_1 : decode cX5_makeStep 1 = .ok (.getfield 51, 3) := by decide +kernel
theorem dX5_makeStep_4 : decode cX5_makeStep 4 = .ok (.invokevirtual 354, 3) := by decide +kernel
theorem dX5_makeStep_7 : decode cX5_makeStep 7 = .ok (.ifCond .eq 12, 3) := by decide +kernel
theorem dX5_makeStep_10 : decode cX5_makeStep 10 = .ok (.aload_n 0, 1) := by decide +kernel
theorem dX5_makeStep_11 : decode cX5_makeStep 11 = .ok (.bipush (-2), 2) := by decide +kernel
theorem dX5_makeStep_13 : decode cX5_makeStep 13 = .ok (.invokevirtual 323, 3) := by decide +kernel
theorem dX5_makeStep_16 : decode cX5_makeStep 16 = .ok (.goto 16, 3) := by decide +kernel
theorem dX5_makeStep_19 : decode cX5_makeStep 19 = .ok (.aload_n 0, 1) := by decide +kernel
theorem dX5_makeStep_20 : decode cX5_makeStep 20 = .ok (.getfield 16, 3) := by decide +kernel
theorem dX5_makeStep_23 : decode cX5_makeStep 23 = .ok (.iload_n 1, 1) := by decide +kernel
theorem dX5_makeStep_24 : decode cX5_makeStep 24 = .ok (.aload_n 0, 1) := by decide +kernel
theorem dX5_makeStep_25 : decode cX5_makeStep 25 = .ok (.getfield 51, 3) := by decide +kernel
theorem dX5_makeStep_28 : decode cX5_makeStep 28 = .ok (.invokevirtual 355, 3) := by decide +kernel
theorem dX5_makeStep_31 : decode cX5_makeStep 31 = .ok (.iastore, 1) := by decide +kernel
theorem dX5_makeStep_32 : decode cX5_makeStep 32 = .ok (.return_, 1) := by decide +kernel
theorem dX5_thenStep_0 : decode cX5_thenStep 0 = .ok (.aload_n 0, 1) := by decide +kernel
theorem dX5_thenStep_1 : decode cX5_thenStep 1 = .ok (.getfield 16, 3) := by decide +kernel
theorem dX5_thenStep_4 : decode cX5_thenStep 4 = .ok (.iload_n 1, 1) := by decide +kernel
theorem dX5_thenStep_5 : decode cX5_thenStep 5 = .ok (.iaload, 1) := by decide +kernel
theorem dX5_thenStep_6 : decode cX5_thenStep 6 = .ok (.iconst (-1), 1) := by decide +kernel
theorem dX5_thenStep_7 : decode cX5_thenStep 7 = .ok (.if_icmp .ne 4, 3) := by decide +kernel
theorem dX5_thenStep_10 : decode cX5_thenStep 10 = .ok (.return_, 1) := by decide +kernel
theorem dX5_thenStep_11 : decode cX5_thenStep 11 = .ok (.aload_n 0, 1) := by decide +kernel
theorem dX5_thenStep_12 : decode cX5_thenStep 12 = .ok (.getfield 51, 3) := by decide +kernel
theorem dX5_thenStep_15 : decode cX5_thenStep 15 = .ok (.invokevirtual 354, 3) := by decide +kernel
theorem dX5_thenStep_18 : decode cX5_thenStep 18 = .ok (.ifCond .eq 10, 3) := by decide +kernel
theorem dX5_thenStep_21 : decode cX5_thenStep 21 = .ok (.aload_n 0, 1) := by decide +kernel
theorem dX5_thenStep_22 : decode cX5_thenStep 22 = .ok (.bipush (-2), 2) := by decide +kernel
theorem dX5_thenStep_24 : decode cX5_thenStep 24 = .ok (.invokevirtual 323, 3) := by decide +kernel
theorem dX5_thenStep_27 : decode cX5_thenStep 27 = .ok (.return_, 1) := by decide +kernel
theorem dX5_thenStep_28 : decode cX5_thenStep 28 = .ok (.aload_n 0, 1) := by decide +kernel
theorem dX5_thenStep_29 : decode cX5_thenStep 29 = .ok (.getfield 51, 3) := by decide +kernel
theorem dX5_thenStep_32 : decode cX5_thenStep 32 = .ok (.invokevirtual 355, 3) := by decide +kernel
theorem dX5_thenStep_35 : decode cX5_thenStep 35 = .ok (.istore 4, 2) := by decide +kernel
theorem dX5_thenStep_37 : decode cX5_thenStep 37 = .ok (.aload_n 0, 1) := by decide +kernel
theorem dX5_thenStep_38 : decode cX5_thenStep 38 = .ok (.getfield 51, 3) := by decide +kernel
theorem dX5_thenStep_41 : decode cX5_thenStep 41 = .ok (.aload_n 0, 1) := by decide +kernel
theorem dX5_thenStep_42 : decode cX5_thenStep 42 = .ok (.getfield 16, 3) := by decide +kernel
theorem dX5_thenStep_45 : decode cX5_thenStep 45 = .ok (.iload_n 1, 1) := by decide +kernel
theorem dX5_thenStep_46 : decode cX5_thenStep 46 = .ok (.iaload, 1) := by decide +kernel
theorem dX5_thenStep_47 : decode cX5_thenStep 47 = .ok (.iload_n 2, 1) := by decide +kernel
theorem dX5_thenStep_48 : decode cX5_thenStep 48 = .ok (.iload_n 3, 1) := by decide +kernel
theorem dX5_thenStep_49 : decode cX5_thenStep 49 = .ok (.iload 4, 2) := by decide +kernel
theorem dX5_thenStep_51 : decode cX5_thenStep 51 = .ok (.invokevirtual 234, 3) := by decide +kernel
theorem dX5_thenStep_54 : decode cX5_thenStep 54 = .ok (.aload_n 0, 1) := by decide +kernel
theorem dX5_thenStep_55 : decode cX5_thenStep 55 = .ok (.getfield 16, 3) := by decide +kernel
theorem dX5_thenStep_58 : decode cX5_thenStep 58 = .ok (.iload_n 1, 1) := by decide +kernel
theorem dX5_thenStep_59 : decode cX5_thenStep 59 = .ok (.iload 4, 2) := by decide +kernel
theorem dX5_thenStep_61 : decode cX5_thenStep 61 = .ok (.iastore, 1) := by decide +kernel
theorem dX5_thenStep_62 : decode cX5_thenStep 62 = .ok (.return_, 1) := by decide +kernel
end
section
/-! The base of the walks: a memory (cell, slot) ↦ int, pure functions with Option, contracts that tie a method to such a function. -/
abbrev px_M : Type := Nat → Nat → Int32
def px_up (M : px_M) (i k : Nat) (x : Int32) : px_M := fun a => if a = i then upd (M i) k x else M a
def px_bn {α β : Type} (a : α) (k : α → β) : β := k a
theorem px_bn_e {α β : Type} {a : α} {k : α → β} {z : β} (h : px_bn a k = z) : ∃ x, x = a ∧ k x = z := ⟨a, rfl, h⟩
def px_bq {α γ : Type} (o : Option α) (k : α → Option γ) : Option γ := match o with
  | none => none
  | some a => k a
theorem px_bq_e {α γ : Type} {o : Option α} {k : α → Option γ} {z : γ} (h : px_bq o k = some z) : ∃ a, o = some a ∧ k a = some z := by
  cases o with
  | none => cases h
  | some a => exact ⟨a, rfl, h⟩
def px_bo {α β γ : Type} (o : Option (α × β)) (k : α → β → Option γ) : Option γ := match o with
  | none => none
  | some a => k a.1 a.2
theorem px_bo_e {α β γ : Type} {o : Option (α × β)} {k : α → β → Option γ} {z : γ} (h : px_bo o k = some z) : ∃ a b, o = some (a, b) ∧ k a b = some z := by
  cases o with
  | none => cases h
  | some a => exact ⟨a.1, a.2, rfl, h⟩
def px_ck {γ : Type} (i : Int32) (n : Nat) (k : Option γ) : Option γ := if i < 0 ∨ n ≤ i.toNatClampNeg then none else k
theorem px_ck_e {γ : Type} {i : Int32} {n : Nat} {k : Option γ} {z : γ} (h : px_ck i n k = some z) : vp_in i n ∧ k = some z := by
  unfold px_ck at h
  by_cases c : i < 0 ∨ n ≤ i.toNatClampNeg
  · rw [if_pos c] at h; cases h
  · rw [if_neg c] at h; exact ⟨c, h⟩
def px_cb {γ : Type} (v : Int32) (k : Option γ) : Option γ := if v = 0 ∨ v = 1 then k else none
theorem px_cb_e {γ : Type} {v : Int32} {k : Option γ} {z : γ} (h : px_cb v k = some z) : narrow .boolean (.int v) = .int v ∧ k = some z := by
  unfold px_cb at h
  by_cases c : v = 0 ∨ v = 1
  · rw [if_pos c] at h
    refine ⟨?_, h⟩
    rcases c with rfl | rfl <;> rfl
  · rw [if_neg c] at h; cases h
theorem px_ip {c : Prop} [Decidable c] {α : Type} {a b z : α} (h : c) (e : (if c then a else b) = z) : a = z := by rw [if_pos h] at e; exact e
theorem px_in {c : Prop} [Decidable c] {α : Type} {a b z : α} (h : ¬ c) (e : (if c then a else b) = z) : b = z := by rw [if_neg h] at e; exact e
theorem px_nn {c : Prop} [Decidable c] {α : Type} {a b z : α} (h : ¬ ¬ c) (e : (if c then a else b) = z) : a = z := by rw [if_pos (Decidable.not_not.mp h)] at e; exact e
/-- the words that every method carries: the tables' good ones -/
def px_TB : List Cond := lw_tbl.filter goodWord
theorem px_tb {w : Cond} (h : w ∈ lw_tbl) (g : goodWord w = true) : w ∈ px_TB := List.mem_filter.mpr ⟨h, g⟩
theorem px_good {w : Cond} (h : w ∈ px_TB) : goodWord w = true := (List.mem_filter.mp h).2
def px_rm (k : Nat) : Room := { frames := k, cells := 0, slots := 0, locals := 60 * k }
/-- what stands all through a method's walk -/
def px_X (D : va_G) (tys : List (ClassId × FieldType)) (p : Program) (s : State) (m : MethodId) (args : Array Value) (c : Code) (cc : ByteArray) (own : String) : Prop :=
  p.tables.exec = Jvm.exec ∧ c.code = cc ∧ (∀ w ∈ px_TB, w.before args s = true) ∧ s.vm.findClass own = some m.cls ∧ va_K D vwCl tys s
/-- the world, now -/
def px_H (D : va_G) (wf : px_M → va_W) (A : Nat → Prop) (H0 : Heap) (M : px_M) (H : Heap) (locs : List Loc) : Prop :=
  va_P D vwCl (wf M) H ∧ va_D A (wf M) ∧ va_S A H0 H locs ∧ ∀ q : Nat, H0.size ≤ q → A q
def px_Pre (D : va_G) (tys : List (ClassId × FieldType)) (wf : px_M → va_W) (sz : Nat) (M : px_M) (U : State) : Prop :=
  U.heap.size = sz ∧ va_P D vwCl (wf M) U.heap ∧ va_K D vwCl tys U ∧ va_D (fun _ => True) (wf M)
def px_B (D : va_G) (tys : List (ClassId × FieldType)) (wf : px_M → va_W) (A : Nat → Prop) (M : px_M) (t : State) : Prop :=
  va_P D vwCl (wf M) t.heap ∧ va_K D vwCl tys t ∧ va_D A (wf M)
def px_mI (l : Launch) (D : va_G) (tys : List (ClassId × FieldType)) (wf : px_M → va_W) (y : MethodName) (bytes : ByteArray) (n : Nat) (ret : Option FieldType) (k : Nat) (as : List Value) (M : px_M) (r : Int32) (M' : px_M) : Prop :=
  ∀ sz : Nat, Met l y (.code y bytes n ret :: px_TB) (px_rm k) (va_Pc as (px_Pre D tys wf sz M)) (va_Qi (fun r' M2 => r' = r ∧ M2 = M') (px_B D tys wf (va_A (wf M) sz)) (va_A (wf M) sz)) 0 0 (va_A (wf M) sz)
def px_mV (l : Launch) (D : va_G) (tys : List (ClassId × FieldType)) (wf : px_M → va_W) (y : MethodName) (bytes : ByteArray) (n : Nat) (k : Nat) (as : List Value) (M M' : px_M) : Prop :=
  ∀ sz : Nat, Met l y (.code y bytes n none :: px_TB) (px_rm k) (va_Pc as (px_Pre D tys wf sz M)) (va_Qv (fun M2 => M2 = M') (px_B D tys wf (va_A (wf M) sz)) (va_A (wf M) sz)) 0 0 (va_A (wf M) sz)
def px_QI (D : va_G) (tys : List (ClassId × FieldType)) (wf : px_M → va_W) (below : List Frame) (args : Array Value) (s : State) (A : Nat → Prop) (r : Int32) (M' : px_M) : State → Prop :=
  MQ below (va_Qi (fun r' M2 => r' = r ∧ M2 = M') (px_B D tys wf A) A) args s 0 0 A
def px_QV (D : va_G) (tys : List (ClassId × FieldType)) (wf : px_M → va_W) (below : List Frame) (args : Array Value) (s : State) (A : Nat → Prop) (M' : px_M) : State → Prop :=
  MQ below (va_Qv (fun M2 => M2 = M') (px_B D tys wf A) A) args s 0 0 A
/-- the words of a call -/
def px_Lk (own : String) (idx : Nat) (y : MethodName) (bytes : ByteArray) (n : Nat) (ret : Option FieldType) (na : Nat) : Prop :=
  Cond.code y bytes n ret ∈ px_TB ∧ Cond.methodLink own idx y ∈ px_TB ∧ Cond.initialized y.cls ∈ px_TB ∧ Cond.instanceMethod y ∈ px_TB ∧ Cond.selects y.cls y y ∈ px_TB ∧
  (y.cls ≠ "java/lang/invoke/MethodHandle" ∧ y.cls ≠ "java/lang/invoke/VarHandle" ∧ (parseMethodDescriptor y.desc).map (fun d => d.parameters.length) = some na) ∧ n ≤ 40
def px_Ls (own : String) (idx : Nat) (y : MethodName) (bytes : ByteArray) (n : Nat) (ret : Option FieldType) (na : Nat) : Prop :=
  Cond.code y bytes n ret ∈ px_TB ∧ Cond.methodLink own idx y ∈ px_TB ∧ Cond.initialized y.cls ∈ px_TB ∧ Cond.static y ∈ px_TB ∧
  (y.cls ≠ "java/lang/invoke/MethodHandle" ∧ y.cls ≠ "java/lang/invoke/VarHandle" ∧ (parseMethodDescriptor y.desc).map (fun d => d.parameters.length) = some na) ∧ n ≤ 40
theorem px_gi {y : MethodName} {bytes : ByteArray} {n : Nat} {ret : Option FieldType} (h : Cond.code y bytes n ret ∈ px_TB) : GoodIn px_TB (.code y bytes n ret :: px_TB) := by
  intro w hw
  have hm : w ∈ px_TB := (List.mem_cons.mp hw).elim (fun e => by rw [e]; exact h) id
  exact ⟨hm, good_of_word (px_good hm)⟩
section PXW
variable {l : Launch} {D : va_G} {tys : List (ClassId × FieldType)} {wf : px_M → va_W} {y : MethodName} {bytes : ByteArray} {n k k' nL : Nat} {ret : Option FieldType} {as As : List Value} {M M' : px_M} {r : Int32}
theorem px_ofI (hy : plainName y.cls = true) (hle : (lg_sl as).length ≤ n)
    (body : ∀ (p : Program) (e : Env) (s : State) (m : MethodId) (below : List Frame) (meth : Method) (c : Code) (A : Nat → Prop) (ls : Array Slot), px_X D tys p s m as.toArray c bytes y.cls → meth.sig.returnType = ret → meth.locks = false → c.maxLocals = n →
      px_H D wf A s.heap M s.heap [] → lv_has ls n (lv_args 0 as) → W p l e (px_rm k) s m as.toArray below meth c s.heap [] 0 0 (px_QI D tys wf below as.toArray s A r M') (F0 m 0 ls [])) : px_mI l D tys wf y bytes n ret k as M r M' := by
  intro sz
  refine Met.ofW (cc := bytes) (maxL := n) (ret := ret) hy rfl ?_
  intro p e s m args below meth c s₁ B hml hv
  obtain ⟨rfl, hsz, hP, hK, hD0⟩ := hv
  have hts : ∀ w ∈ px_TB, w.before as.toArray s = true := fun w h => atoms_spec (ws := .code y bytes n ret :: px_TB) B.pre w (List.mem_cons_of_mem _ h)
  have hown := findClass_of_methodNamed B.named
  subst hsz
  have hD := hD0.self (sz := s.heap.size)
  have hl := lv_entry as (n := n) hle
  rw [lg_entry_eq]
  exact body p e s m below meth c _ _ ⟨B.exec, B.bytes, hts, hown, hK⟩ B.returns B.notSynchronized hml ⟨hP, hD, va_S.rf, fun q h => Or.inr h⟩ hl
theorem px_ofV (hy : plainName y.cls = true) (hle : (lg_sl as).length ≤ n)
    (body : ∀ (p : Program) (e : Env) (s : State) (m : MethodId) (below : List Frame) (meth : Method) (c : Code) (A : Nat → Prop) (ls : Array Slot), px_X D tys p s m as.toArray c bytes y.cls → meth.sig.returnType = none → meth.locks = false → c.maxLocals = n →
      px_H D wf A s.heap M s.heap [] → lv_has ls n (lv_args 0 as) → W p l e (px_rm k) s m as.toArray below meth c s.heap [] 0 0 (px_QV D tys wf below as.toArray s A M') (F0 m 0 ls [])) : px_mV l D tys wf y bytes n k as M M' := by
  intro sz
  refine Met.ofW (cc := bytes) (maxL := n) (ret := none) hy rfl ?_
  intro p e s m args below meth c s₁ B hml hv
  obtain ⟨rfl, hsz, hP, hK, hD0⟩ := hv
  have hts : ∀ w ∈ px_TB, w.before as.toArray s = true := fun w h => atoms_spec (ws := .code y bytes n none :: px_TB) B.pre w (List.mem_cons_of_mem _ h)
  have hown := findClass_of_methodNamed B.named
  subst hsz
  have hD := hD0.self (sz := s.heap.size)
  have hl := lv_entry as (n := n) hle
  rw [lg_entry_eq]
  exact body p e s m below meth c _ _ ⟨B.exec, B.bytes, hts, hown, hK⟩ B.returns B.notSynchronized hml ⟨hP, hD, va_S.rf, fun q h => Or.inr h⟩ hl
variable {p : Program} {e : Env} {R : Room} {s : State} {m : MethodId} {args : Array Value} {below : List Frame} {meth : Method} {c : Code} {H : Heap} {locs : List Loc} {Q : State → Prop} {cc : ByteArray} {pc : Nat} {ls : Array Slot} {rest st : List Value} {A : Nat → Prop} {own : String} {b idx : Nat} {lv : List (Nat × Value)} {v : Int32}
theorem px_retI (X : px_X D tys p s m args c cc own) (hr : meth.sig.returnType = some .int) (hlk : meth.locks = false) (w : px_H D wf A s.heap M H locs) (hd : decode cc pc = .ok (.ireturn, 1)) : W p l e R s m args below meth c H locs 0 0 (px_QI D tys wf below args s A v M) (F0 m pc ls [.int v]) :=
  W.iret (v := v) X.1 X.2.1 hr (fun t ht hW => ⟨⟨v, M, rfl, ⟨rfl, rfl⟩, by rw [ht]; exact w.1, va_K.moved hW.alike X.2.2.2.2, w.2.1⟩, w.2.2.1.F ht⟩) w.2.2.1.2.2 hd hlk
theorem px_retZ (X : px_X D tys p s m args c cc own) (hr : meth.sig.returnType = some .boolean) (hlk : meth.locks = false) (hn : narrow .boolean (.int v) = .int v) (w : px_H D wf A s.heap M H locs) (hd : decode cc pc = .ok (.ireturn, 1)) : W p l e R s m args below meth c H locs 0 0 (px_QI D tys wf below args s A v M) (F0 m pc ls [.int v]) :=
  W.zret (v := v) X.1 X.2.1 hr hn (fun t ht hW => ⟨⟨v, M, rfl, ⟨rfl, rfl⟩, by rw [ht]; exact w.1, va_K.moved hW.alike X.2.2.2.2, w.2.1⟩, w.2.2.1.F ht⟩) w.2.2.1.2.2 hd hlk
theorem px_retV (X : px_X D tys p s m args c cc own) (hr : meth.sig.returnType = none) (hlk : meth.locks = false) (w : px_H D wf A s.heap M H locs) (hd : decode cc pc = .ok (.return_, 1)) : W p l e R s m args below meth c H locs 0 0 (px_QV D tys wf below args s A M) (F0 m pc ls []) :=
  W.vret X.1 X.2.1 hr (fun t ht hW => ⟨⟨M, rfl, rfl, by rw [ht]; exact w.1, va_K.moved hW.alike X.2.2.2.2, w.2.1⟩, w.2.2.1.F ht⟩) w.2.2.1.2.2 hd hlk
theorem px_fr (w : px_H D wf A s.heap M H locs) : ∀ q, va_A (wf M) H.size q → A q := by
  intro q h
  rcases h with ⟨j, x, h⟩ | h
  · exact w.2.1.2 j (q, x) h
  · exact w.2.2.2 q (Nat.le_trans w.2.2.1.1 h)
theorem px_blind (sz : Nat) : FrameBlind (va_Pc as (px_Pre D tys wf sz M)) := fun a U g mk q => by
  obtain ⟨q0, q1, qP, qK, qD⟩ := q
  exact ⟨q0, q1, qP, va_K.moved (u := U) (U := U.calling g mk a) (Vm.Alike.refl U.vm) qK, qD⟩
theorem px_pre (X : px_X D tys p s m args c cc own) (w : px_H D wf A s.heap M H locs) : ∀ U : State, U.heap = H → s.WarmedH U.vm → va_Pc as (px_Pre D tys wf H.size M) as.toArray U := fun U hU hW =>
  ⟨rfl, by rw [hU], by rw [hU]; exact w.1, va_K.moved hW.alike X.2.2.2.2, w.2.1.weaken (fun _ _ _ _ => trivial)⟩
theorem px_cb_of (X : px_X D tys p s m args c cc own) {na : Nat} (hc : Cond.code y bytes n ret ∈ px_TB) (hl : Cond.methodLink own idx y ∈ px_TB) (hi : Cond.initialized y.cls ∈ px_TB) (hd : y.cls ≠ "java/lang/invoke/MethodHandle" ∧ y.cls ≠ "java/lang/invoke/VarHandle" ∧ (parseMethodDescriptor y.desc).map (fun d => d.parameters.length) = some na) (hn : n ≤ 40) (hk : k' + 1 ≤ k) :
    CallB (px_rm k) s args own idx y bytes n ret (.code y bytes n ret :: px_TB) (px_rm k') 0 0 na :=
  callB_of na X.2.2.1 (px_gi hc) rfl rfl rfl (X.2.2.1 _ hi) (X.2.2.1 _ hl) hd ⟨hk, by show 8 + (n + 11) + 60 * k' ≤ 60 * k; omega⟩
theorem px_cI (X : px_X D tys p s m args c cc own) (hml : c.maxLocals = nL) (hl : lv_has ls nL lv) (w : px_H D wf A s.heap M H locs) (hM : px_mI l D tys wf y bytes n ret k' (.ref b :: As) M r M') (L : px_Lk own idx y bytes n ret As.length) (hk : k' + 1 ≤ k)
    (rc : ∃ cell : Cell, H[b]? = some cell ∧ cell.vm.isStatics = false ∧ s.vm.findClass y.cls = some cell.cls) (hst : st = As.reverse ++ .ref b :: rest) (hW : (rest.map fun v => v.category).sum ≤ 8) (hd : decode cc pc = .ok (.invokevirtual idx, 3))
    (kk : ∀ (H : Heap) (locs : List Loc), px_H D wf A s.heap M' H locs → W p l e (px_rm k) s m args below meth c H locs 0 0 Q (F0 m (pc + 3) ls (.int r :: rest))) : W p l e (px_rm k) s m args below meth c H locs 0 0 Q (F0 m pc ls st) := by
  obtain ⟨h1, h2, h3, h4, h5, h6, h7⟩ := L
  refine va_calli (va_runV (As := As) (rest := rest) ⟨X.1, X.2.1, hml, X.2.2.2.1, X.2.2.1⟩ (hM H.size) ⟨px_cb_of X h1 h2 h3 h6 h7 hk, X.2.2.1 _ h4, X.2.2.1 _ h5⟩ ⟨px_blind _, rc, px_pre X w⟩ rfl rfl hl.1 hst (lv_room hW) hd ⟨Nat.le_refl 0, Nat.le_refl 0⟩) w.2.2.1 (fun q _ h => px_fr w q h) (px_fr w) (fun r' M2 t H1 locs1 ht hvm hw hB hz1 hk1 hS1 => ?_)
  obtain ⟨rfl, rfl⟩ := hw
  exact kk H1 locs1 ⟨by rw [← ht]; exact hB.1, hB.2.2.weaken (fun _ q _ h => px_fr w q.1 h), hS1, w.2.2.2⟩
theorem px_cV (X : px_X D tys p s m args c cc own) (hml : c.maxLocals = nL) (hl : lv_has ls nL lv) (w : px_H D wf A s.heap M H locs) (hM : px_mV l D tys wf y bytes n k' (.ref b :: As) M M') (L : px_Lk own idx y bytes n none As.length) (hk : k' + 1 ≤ k)
    (rc : ∃ cell : Cell, H[b]? = some cell ∧ cell.vm.isStatics = false ∧ s.vm.findClass y.cls = some cell.cls) (hst : st = As.reverse ++ .ref b :: rest) (hW : (rest.map fun v => v.category).sum ≤ 8) (hd : decode cc pc = .ok (.invokevirtual idx, 3))
    (kk : ∀ (H : Heap) (locs : List Loc), px_H D wf A s.heap M' H locs → W p l e (px_rm k) s m args below meth c H locs 0 0 Q (F0 m (pc + 3) ls rest)) : W p l e (px_rm k) s m args below meth c H locs 0 0 Q (F0 m pc ls st) := by
  obtain ⟨h1, h2, h3, h4, h5, h6, h7⟩ := L
  refine va_callv (va_runV (As := As) (rest := rest) ⟨X.1, X.2.1, hml, X.2.2.2.1, X.2.2.1⟩ (hM H.size) ⟨px_cb_of X h1 h2 h3 h6 h7 hk, X.2.2.1 _ h4, X.2.2.1 _ h5⟩ ⟨px_blind _, rc, px_pre X w⟩ rfl rfl hl.1 hst (lv_room hW) hd ⟨Nat.le_refl 0, Nat.le_refl 0⟩) w.2.2.1 (fun q _ h => px_fr w q h) (px_fr w) (fun M2 t H1 locs1 ht hvm hw hB hz1 hk1 hS1 => ?_)
  subst hw
  exact kk H1 locs1 ⟨by rw [← ht]; exact hB.1, hB.2.2.weaken (fun _ q _ h => px_fr w q.1 h), hS1, w.2.2.2⟩
theorem px_cS (X : px_X D tys p s m args c cc own) (hml : c.maxLocals = nL) (hl : lv_has ls nL lv) (w : px_H D wf A s.heap M H locs) (hM : px_mI l D tys wf y bytes n ret k' As M r M') (L : px_Ls own idx y bytes n ret As.length) (hk : k' + 1 ≤ k)
    (hst : st = As.reverse ++ rest) (hW : (rest.map fun v => v.category).sum ≤ 8) (hd : decode cc pc = .ok (.invokestatic idx, 3))
    (kk : ∀ (H : Heap) (locs : List Loc), px_H D wf A s.heap M' H locs → W p l e (px_rm k) s m args below meth c H locs 0 0 Q (F0 m (pc + 3) ls (.int r :: rest))) : W p l e (px_rm k) s m args below meth c H locs 0 0 Q (F0 m pc ls st) := by
  obtain ⟨h1, h2, h3, h4, h6, h7⟩ := L
  refine va_calli (va_runS (As := As) (rest := rest) ⟨X.1, X.2.1, hml, X.2.2.2.1, X.2.2.1⟩ (hM H.size) ⟨px_cb_of X h1 h2 h3 h6 h7 hk, X.2.2.1 _ h4⟩ ⟨px_blind _, px_pre X w⟩ rfl rfl hl.1 hst (lv_room hW) hd ⟨Nat.le_refl 0, Nat.le_refl 0⟩) w.2.2.1 (fun q _ h => px_fr w q h) (px_fr w) (fun r' M2 t H1 locs1 ht hvm hw hB hz1 hk1 hS1 => ?_)
  obtain ⟨rfl, rfl⟩ := hw
  exact kk H1 locs1 ⟨by rw [← ht]; exact hB.1, hB.2.2.weaken (fun _ q _ h => px_fr w q.1 h), hS1, w.2.2.2⟩
end PXW
def px_fx0 {γ : Type} (F : (px_M → Option γ) → px_M → Option γ) : Nat → px_M → Option γ
  | 0 => fun _ => none
  | j + 1 => F (px_fx0 F j)
theorem px_fx0_i {γ : Type} {F : (px_M → Option γ) → px_M → Option γ} {P : px_M → γ → Prop} (h : ∀ rc : px_M → Option γ, (∀ (M : px_M) (z : γ), rc M  = some z → P M  z) → ∀ (M : px_M) (z : γ), F rc M  = some z → P M  z) : ∀ (j : Nat) (M : px_M) (z : γ), px_fx0 F j M  = some z → P M  z := by
  intro j
  induction j with
  | zero => intro M  z hz; cases hz
  | succ j ih => intro M  z hz; exact h _ ih M  z hz
def px_fx1 {γ : Type} (F : (px_M → Int32 → Option γ) → px_M → Int32 → Option γ) : Nat → px_M → Int32 → Option γ
  | 0 => fun _ _ => none
  | j + 1 => F (px_fx1 F j)
theorem px_fx1_i {γ : Type} {F : (px_M → Int32 → Option γ) → px_M → Int32 → Option γ} {P : px_M → Int32 → γ → Prop} (h : ∀ rc : px_M → Int32 → Option γ, (∀ (M : px_M) (x0 : Int32) (z : γ), rc M x0 = some z → P M x0 z) → ∀ (M : px_M) (x0 : Int32) (z : γ), F rc M x0 = some z → P M x0 z) : ∀ (j : Nat) (M : px_M) (x0 : Int32) (z : γ), px_fx1 F j M x0 = some z → P M x0 z := by
  intro j
  induction j with
  | zero => intro M x0 z hz; cases hz
  | succ j ih => intro M x0 z hz; exact h _ ih M x0 z hz
def px_fx2 {γ : Type} (F : (px_M → Int32 → Int32 → Option γ) → px_M → Int32 → Int32 → Option γ) : Nat → px_M → Int32 → Int32 → Option γ
  | 0 => fun _ _ _ => none
  | j + 1 => F (px_fx2 F j)
theorem px_fx2_i {γ : Type} {F : (px_M → Int32 → Int32 → Option γ) → px_M → Int32 → Int32 → Option γ} {P : px_M → Int32 → Int32 → γ → Prop} (h : ∀ rc : px_M → Int32 → Int32 → Option γ, (∀ (M : px_M) (x0 x1 : Int32) (z : γ), rc M x0 x1 = some z → P M x0 x1 z) → ∀ (M : px_M) (x0 x1 : Int32) (z : γ), F rc M x0 x1 = some z → P M x0 x1 z) : ∀ (j : Nat) (M : px_M) (x0 x1 : Int32) (z : γ), px_fx2 F j M x0 x1 = some z → P M x0 x1 z := by
  intro j
  induction j with
  | zero => intro M x0 x1 z hz; cases hz
  | succ j ih => intro M x0 x1 z hz; exact h _ ih M x0 x1 z hz
def px_fx3 {γ : Type} (F : (px_M → Int32 → Int32 → Int32 → Option γ) → px_M → Int32 → Int32 → Int32 → Option γ) : Nat → px_M → Int32 → Int32 → Int32 → Option γ
  | 0 => fun _ _ _ _ => none
  | j + 1 => F (px_fx3 F j)
theorem px_fx3_i {γ : Type} {F : (px_M → Int32 → Int32 → Int32 → Option γ) → px_M → Int32 → Int32 → Int32 → Option γ} {P : px_M → Int32 → Int32 → Int32 → γ → Prop} (h : ∀ rc : px_M → Int32 → Int32 → Int32 → Option γ, (∀ (M : px_M) (x0 x1 x2 : Int32) (z : γ), rc M x0 x1 x2 = some z → P M x0 x1 x2 z) → ∀ (M : px_M) (x0 x1 x2 : Int32) (z : γ), F rc M x0 x1 x2 = some z → P M x0 x1 x2 z) : ∀ (j : Nat) (M : px_M) (x0 x1 x2 : Int32) (z : γ), px_fx3 F j M x0 x1 x2 = some z → P M x0 x1 x2 z := by
  intro j
  induction j with
  | zero => intro M x0 x1 x2 z hz; cases hz
  | succ j ih => intro M x0 x1 x2 z hz; exact h _ ih M x0 x1 x2 z hz
def px_fx4 {γ : Type} (F : (px_M → Int32 → Int32 → Int32 → Int32 → Option γ) → px_M → Int32 → Int32 → Int32 → Int32 → Option γ) : Nat → px_M → Int32 → Int32 → Int32 → Int32 → Option γ
  | 0 => fun _ _ _ _ _ => none
  | j + 1 => F (px_fx4 F j)
theorem px_fx4_i {γ : Type} {F : (px_M → Int32 → Int32 → Int32 → Int32 → Option γ) → px_M → Int32 → Int32 → Int32 → Int32 → Option γ} {P : px_M → Int32 → Int32 → Int32 → Int32 → γ → Prop} (h : ∀ rc : px_M → Int32 → Int32 → Int32 → Int32 → Option γ, (∀ (M : px_M) (x0 x1 x2 x3 : Int32) (z : γ), rc M x0 x1 x2 x3 = some z → P M x0 x1 x2 x3 z) → ∀ (M : px_M) (x0 x1 x2 x3 : Int32) (z : γ), F rc M x0 x1 x2 x3 = some z → P M x0 x1 x2 x3 z) : ∀ (j : Nat) (M : px_M) (x0 x1 x2 x3 : Int32) (z : γ), px_fx4 F j M x0 x1 x2 x3 = some z → P M x0 x1 x2 x3 z := by
  intro j
  induction j with
  | zero => intro M x0 x1 x2 x3 z hz; cases hz
  | succ j ih => intro M x0 x1 x2 x3 z hz; exact h _ ih M x0 x1 x2 x3 z hz
def px_fx5 {γ : Type} (F : (px_M → Int32 → Int32 → Int32 → Int32 → Int32 → Option γ) → px_M → Int32 → Int32 → Int32 → Int32 → Int32 → Option γ) : Nat → px_M → Int32 → Int32 → Int32 → Int32 → Int32 → Option γ
  | 0 => fun _ _ _ _ _ _ => none
  | j + 1 => F (px_fx5 F j)
theorem px_fx5_i {γ : Type} {F : (px_M → Int32 → Int32 → Int32 → Int32 → Int32 → Option γ) → px_M → Int32 → Int32 → Int32 → Int32 → Int32 → Option γ} {P : px_M → Int32 → Int32 → Int32 → Int32 → Int32 → γ → Prop} (h : ∀ rc : px_M → Int32 → Int32 → Int32 → Int32 → Int32 → Option γ, (∀ (M : px_M) (x0 x1 x2 x3 x4 : Int32) (z : γ), rc M x0 x1 x2 x3 x4 = some z → P M x0 x1 x2 x3 x4 z) → ∀ (M : px_M) (x0 x1 x2 x3 x4 : Int32) (z : γ), F rc M x0 x1 x2 x3 x4 = some z → P M x0 x1 x2 x3 x4 z) : ∀ (j : Nat) (M : px_M) (x0 x1 x2 x3 x4 : Int32) (z : γ), px_fx5 F j M x0 x1 x2 x3 x4 = some z → P M x0 x1 x2 x3 x4 z := by
  intro j
  induction j with
  | zero => intro M x0 x1 x2 x3 x4 z hz; cases hz
  | succ j ih => intro M x0 x1 x2 x3 x4 z hz; exact h _ ih M x0 x1 x2 x3 x4 z hz
def px_fx6 {γ : Type} (F : (px_M → Int32 → Int32 → Int32 → Int32 → Int32 → Int32 → Option γ) → px_M → Int32 → Int32 → Int32 → Int32 → Int32 → Int32 → Option γ) : Nat → px_M → Int32 → Int32 → Int32 → Int32 → Int32 → Int32 → Option γ
  | 0 => fun _ _ _ _ _ _ _ => none
  | j + 1 => F (px_fx6 F j)
theorem px_fx6_i {γ : Type} {F : (px_M → Int32 → Int32 → Int32 → Int32 → Int32 → Int32 → Option γ) → px_M → Int32 → Int32 → Int32 → Int32 → Int32 → Int32 → Option γ} {P : px_M → Int32 → Int32 → Int32 → Int32 → Int32 → Int32 → γ → Prop} (h : ∀ rc : px_M → Int32 → Int32 → Int32 → Int32 → Int32 → Int32 → Option γ, (∀ (M : px_M) (x0 x1 x2 x3 x4 x5 : Int32) (z : γ), rc M x0 x1 x2 x3 x4 x5 = some z → P M x0 x1 x2 x3 x4 x5 z) → ∀ (M : px_M) (x0 x1 x2 x3 x4 x5 : Int32) (z : γ), F rc M x0 x1 x2 x3 x4 x5 = some z → P M x0 x1 x2 x3 x4 x5 z) : ∀ (j : Nat) (M : px_M) (x0 x1 x2 x3 x4 x5 : Int32) (z : γ), px_fx6 F j M x0 x1 x2 x3 x4 x5 = some z → P M x0 x1 x2 x3 x4 x5 z := by
  intro j
  induction j with
  | zero => intro M x0 x1 x2 x3 x4 x5 z hz; cases hz
  | succ j ih => intro M x0 x1 x2 x3 x4 x5 z hz; exact h _ ih M x0 x1 x2 x3 x4 x5 z hz
def px_fx7 {γ : Type} (F : (px_M → Int32 → Int32 → Int32 → Int32 → Int32 → Int32 → Int32 → Option γ) → px_M → Int32 → Int32 → Int32 → Int32 → Int32 → Int32 → Int32 → Option γ) : Nat → px_M → Int32 → Int32 → Int32 → Int32 → Int32 → Int32 → Int32 → Option γ
  | 0 => fun _ _ _ _ _ _ _ _ => none
  | j + 1 => F (px_fx7 F j)
theorem px_fx7_i {γ : Type} {F : (px_M → Int32 → Int32 → Int32 → Int32 → Int32 → Int32 → Int32 → Option γ) → px_M → Int32 → Int32 → Int32 → Int32 → Int32 → Int32 → Int32 → Option γ} {P : px_M → Int32 → Int32 → Int32 → Int32 → Int32 → Int32 → Int32 → γ → Prop} (h : ∀ rc : px_M → Int32 → Int32 → Int32 → Int32 → Int32 → Int32 → Int32 → Option γ, (∀ (M : px_M) (x0 x1 x2 x3 x4 x5 x6 : Int32) (z : γ), rc M x0 x1 x2 x3 x4 x5 x6 = some z → P M x0 x1 x2 x3 x4 x5 x6 z) → ∀ (M : px_M) (x0 x1 x2 x3 x4 x5 x6 : Int32) (z : γ), F rc M x0 x1 x2 x3 x4 x5 x6 = some z → P M x0 x1 x2 x3 x4 x5 x6 z) : ∀ (j : Nat) (M : px_M) (x0 x1 x2 x3 x4 x5 x6 : Int32) (z : γ), px_fx7 F j M x0 x1 x2 x3 x4 x5 x6 = some z → P M x0 x1 x2 x3 x4 x5 x6 z := by
  intro j
  induction j with
  | zero => intro M x0 x1 x2 x3 x4 x5 x6 z hz; cases hz
  | succ j ih => intro M x0 x1 x2 x3 x4 x5 x6 z hz; exact h _ ih M x0 x1 x2 x3 x4 x5 x6 z hz
end
section
theorem px_fb {x : Int32} (h : narrow .boolean (.int x) = .int x) : fits .boolean (.int x) = true := by
  rw [← h]; unfold narrow fits; simp
  have e := pk_and x (m := 1) 1 (by decide)
  rcases Nat.mod_two_eq_zero_or_one x.toBitVec.toNat with h1 | h1
  · left; rw [e, show (2 : Nat) ^ 1 = 2 from rfl, h1]; rfl
  · right; rw [e, show (2 : Nat) ^ 1 = 2 from rfl, h1]; rfl
def wC (cs : Nat → ClassId) (ad : Nat → Nat) (M : px_M) : va_W := [(ad 0, .inr (5, [.ref (ad 1), .ref (ad 6), .ref (ad 7), .ref (ad 20), .ref (ad 24), .ref (ad 28), .ref (ad 30), .ref (ad 32), .ref (ad 43), .int (M 0 9), .int (M 0 10), .int (M 0 11), .int (M 0 12), .int (M 0 13), .int (M 0 14), .int (M 0 15), .int (M 0 16), .int (M 0 17)])), (ad 1, .inr (0, [.ref (ad 2), .ref (ad 3), .ref (ad 4), .ref (ad 5)])), (ad 2, .inl (cs 0, 10, .inl (M 2))), (ad 3, .inl (cs 0, 60, .inl (M 3))), (ad 4, .inl (cs 0, 60, .inl (M 4))), (ad 5, .inl (cs 0, 60, .inl (M 5))), (ad 6, .inl (cs 0, 8, .inl (M 6))), (ad 7, .inl (cs 2, 3, .inr (.inr (.inr (.inr (fun j => if j = 0 then some (ad 8) else if j = 1 then some (ad 12) else some (ad 16))))))), (ad 8, .inr (2, [.int (M 8 0), .ref (ad 9), .ref (ad 10), .ref (ad 11), .int (M 8 4), .int (M 8 5)])), (ad 9, .inl (cs 0, 40, .inl (M 9))), (ad 10, .inl (cs 0, 40, .inl (M 10))), (ad 11, .inl (cs 0, 40, .inl (M 11))), (ad 12, .inr (2, [.int (M 12 0), .ref (ad 13), .ref (ad 14), .ref (ad 15), .int (M 12 4), .int (M 12 5)])), (ad 13, .inl (cs 0, 1051, .inl (M 13))), (ad 14, .inl (cs 0, 1051, .inl (M 14))), (ad 15, .inl (cs 0, 1051, .inl (M 15))), (ad 16, .inr (2, [.int (M 16 0), .ref (ad 17), .ref (ad 18), .ref (ad 19), .int (M 16 4), .int (M 16 5)])), (ad 17, .inl (cs 0, 40, .inl (M 17))), (ad 18, .inl (cs 0, 40, .inl (M 18))), (ad 19, .inl (cs 0, 40, .inl (M 19))), (ad 20, .inr (2, [.int (M 20 0), .ref (ad 21), .ref (ad 22), .ref (ad 23), .int (M 20 4), .int (M 20 5)])), (ad 21, .inl (cs 0, 180, .inl (M 21))), (ad 22, .inl (cs 0, 180, .inl (M 22))), (ad 23, .inl (cs 0, 180, .inl (M 23))), (ad 24, .inr (2, [.int (M 24 0), .ref (ad 25), .ref (ad 26), .ref (ad 27), .int (M 24 4), .int (M 24 5)])), (ad 25, .inl (cs 0, 8, .inl (M 25))), (ad 26, .inl (cs 0, 8, .inl (M 26))), (ad 27, .inl (cs 0, 8, .inl (M 27))), (ad 28, .inr (1, [.ref (ad 29), .int (M 28 1)])), (ad 29, .inl (cs 0, 200, .inl (M 29))), (ad 30, .inr (1, [.ref (ad 31), .int (M 30 1)])), (ad 31, .inl (cs 0, 200, .inl (M 31))), (ad 32, .inr (3, [.ref (ad 20), .ref (ad 30), .ref (ad 33), .ref (ad 34), .ref (ad 35), .ref (ad 36), .ref (ad 37), .int (M 32 7), .ref (ad 38), .int (M 32 9), .ref (ad 39), .ref (ad 40), .ref (ad 41), .ref (ad 42), .int (M 32 14)])), (ad 33, .inl (cs 0, 40, .inl (M 33))), (ad 34, .inl (cs 0, 40, .inl (M 34))), (ad 35, .inl (cs 1, 40, .inl (M 35))), (ad 36, .inl (cs 1, 40, .inl (M 36))), (ad 37, .inl (cs 1, 40, .inl (M 37))), (ad 38, .inl (cs 0, 40, .inl (M 38))), (ad 39, .inl (cs 0, 80, .inl (M 39))), (ad 40, .inl (cs 0, 80, .inl (M 40))), (ad 41, .inl (cs 0, 80, .inl (M 41))), (ad 42, .inl (cs 0, 80, .inl (M 42))), (ad 43, .inr (4, [.ref (ad 44), .ref (ad 45), .ref (ad 46), .ref (ad 47), .ref (ad 48), .ref (ad 49), .ref (ad 50), .ref (ad 51), .int (M 43 8), .int (M 43 9)])), (ad 44, .inl (cs 0, 12, .inl (M 44))), (ad 45, .inl (cs 0, 12, .inl (M 45))), (ad 46, .inl (cs 0, 12, .inl (M 46))), (ad 47, .inl (cs 0, 12, .inl (M 47))), (ad 48, .inl (cs 0, 12, .inl (M 48))), (ad 49, .inl (cs 0, 12, .inl (M 49))), (ad 50, .inl (cs 1, 12, .inl (M 50))), (ad 51, .inl (cs 1, 12, .inl (M 51)))]
abbrev tyC (cs : Nat → ClassId) : List (ClassId × FieldType) := [(cs 0, .int), (cs 1, .boolean), (cs 2, .object "PromiseLoop$Line")]
theorem wu_X0 : ∀ w ∈ u_ws RX0 TX0 4, w ∈ px_TB := fun w h => px_tb ((by decide +kernel : ∀ w ∈ u_ws RX0 TX0 4, w ∈ lw_tbl) w h) ((by decide +kernel : ∀ w ∈ u_ws RX0 TX0 4, goodWord w = true) w h)
theorem wf_X0_0 : Cond.fieldLink RX0 9 (TX0 0).1 (TX0 0).2.1 (TX0 0).2.2.1 ∈ px_TB := px_tb (by decide +kernel) (by decide +kernel)
theorem wf_X0_1 : Cond.fieldLink RX0 15 (TX0 1).1 (TX0 1).2.1 (TX0 1).2.2.1 ∈ px_TB := px_tb (by decide +kernel) (by decide +kernel)
theorem wf_X0_2 : Cond.fieldLink RX0 18 (TX0 2).1 (TX0 2).2.1 (TX0 2).2.2.1 ∈ px_TB := px_tb (by decide +kernel) (by decide +kernel)
theorem wf_X0_3 : Cond.fieldLink RX0 21 (TX0 3).1 (TX0 3).2.1 (TX0 3).2.2.1 ∈ px_TB := px_tb (by decide +kernel) (by decide +kernel)
theorem wu_X1 : ∀ w ∈ u_ws RX1 TX1 2, w ∈ px_TB := fun w h => px_tb ((by decide +kernel : ∀ w ∈ u_ws RX1 TX1 2, w ∈ lw_tbl) w h) ((by decide +kernel : ∀ w ∈ u_ws RX1 TX1 2, goodWord w = true) w h)
theorem wf_X1_0 : Cond.fieldLink RX1 9 (TX1 0).1 (TX1 0).2.1 (TX1 0).2.2.1 ∈ px_TB := px_tb (by decide +kernel) (by decide +kernel)
theorem wf_X1_1 : Cond.fieldLink RX1 15 (TX1 1).1 (TX1 1).2.1 (TX1 1).2.2.1 ∈ px_TB := px_tb (by decide +kernel) (by decide +kernel)
theorem wu_X2 : ∀ w ∈ u_ws RX2 TX2 6, w ∈ px_TB := fun w h => px_tb ((by decide +kernel : ∀ w ∈ u_ws RX2 TX2 6, w ∈ lw_tbl) w h) ((by decide +kernel : ∀ w ∈ u_ws RX2 TX2 6, goodWord w = true) w h)
theorem wf_X2_0 : Cond.fieldLink RX2 16 (TX2 0).1 (TX2 0).2.1 (TX2 0).2.2.1 ∈ px_TB := px_tb (by decide +kernel) (by decide +kernel)
theorem wf_X2_1 : Cond.fieldLink RX2 19 (TX2 1).1 (TX2 1).2.1 (TX2 1).2.2.1 ∈ px_TB := px_tb (by decide +kernel) (by decide +kernel)
theorem wf_X2_2 : Cond.fieldLink RX2 23 (TX2 2).1 (TX2 2).2.1 (TX2 2).2.2.1 ∈ px_TB := px_tb (by decide +kernel) (by decide +kernel)
theorem wf_X2_3 : Cond.fieldLink RX2 26 (TX2 3).1 (TX2 3).2.1 (TX2 3).2.2.1 ∈ px_TB := px_tb (by decide +kernel) (by decide +kernel)
theorem wf_X2_4 : Cond.fieldLink RX2 7 (TX2 4).1 (TX2 4).2.1 (TX2 4).2.2.1 ∈ px_TB := px_tb (by decide +kernel) (by decide +kernel)
theorem wf_X2_5 : Cond.fieldLink RX2 13 (TX2 5).1 (TX2 5).2.1 (TX2 5).2.2.1 ∈ px_TB := px_tb (by decide +kernel) (by decide +kernel)
theorem wu_X3 : ∀ w ∈ u_ws RX3 TX3 15, w ∈ px_TB := fun w h => px_tb ((by decide +kernel : ∀ w ∈ u_ws RX3 TX3 15, w ∈ lw_tbl) w h) ((by decide +kernel : ∀ w ∈ u_ws RX3 TX3 15, goodWord w = true) w h)
theorem wf_X3_0 : Cond.fieldLink RX3 53 (TX3 0).1 (TX3 0).2.1 (TX3 0).2.2.1 ∈ px_TB := px_tb (by decide +kernel) (by decide +kernel)
theorem wf_X3_1 : Cond.fieldLink RX3 57 (TX3 1).1 (TX3 1).2.1 (TX3 1).2.2.1 ∈ px_TB := px_tb (by decide +kernel) (by decide +kernel)
theorem wf_X3_2 : Cond.fieldLink RX3 9 (TX3 2).1 (TX3 2).2.1 (TX3 2).2.2.1 ∈ px_TB := px_tb (by decide +kernel) (by decide +kernel)
theorem wf_X3_3 : Cond.fieldLink RX3 15 (TX3 3).1 (TX3 3).2.1 (TX3 3).2.2.1 ∈ px_TB := px_tb (by decide +kernel) (by decide +kernel)
theorem wf_X3_4 : Cond.fieldLink RX3 18 (TX3 4).1 (TX3 4).2.1 (TX3 4).2.2.1 ∈ px_TB := px_tb (by decide +kernel) (by decide +kernel)
theorem wf_X3_5 : Cond.fieldLink RX3 22 (TX3 5).1 (TX3 5).2.1 (TX3 5).2.2.1 ∈ px_TB := px_tb (by decide +kernel) (by decide +kernel)
theorem wf_X3_6 : Cond.fieldLink RX3 25 (TX3 6).1 (TX3 6).2.1 (TX3 6).2.2.1 ∈ px_TB := px_tb (by decide +kernel) (by decide +kernel)
theorem wf_X3_7 : Cond.fieldLink RX3 28 (TX3 7).1 (TX3 7).2.1 (TX3 7).2.2.1 ∈ px_TB := px_tb (by decide +kernel) (by decide +kernel)
theorem wf_X3_8 : Cond.fieldLink RX3 32 (TX3 8).1 (TX3 8).2.1 (TX3 8).2.2.1 ∈ px_TB := px_tb (by decide +kernel) (by decide +kernel)
theorem wf_X3_9 : Cond.fieldLink RX3 35 (TX3 9).1 (TX3 9).2.1 (TX3 9).2.2.1 ∈ px_TB := px_tb (by decide +kernel) (by decide +kernel)
theorem wf_X3_10 : Cond.fieldLink RX3 38 (TX3 10).1 (TX3 10).2.1 (TX3 10).2.2.1 ∈ px_TB := px_tb (by decide +kernel) (by decide +kernel)
theorem wf_X3_11 : Cond.fieldLink RX3 41 (TX3 11).1 (TX3 11).2.1 (TX3 11).2.2.1 ∈ px_TB := px_tb (by decide +kernel) (by decide +kernel)
theorem wf_X3_12 : Cond.fieldLink RX3 44 (TX3 12).1 (TX3 12).2.1 (TX3 12).2.2.1 ∈ px_TB := px_tb (by decide +kernel) (by decide +kernel)
theorem wf_X3_13 : Cond.fieldLink RX3 47 (TX3 13).1 (TX3 13).2.1 (TX3 13).2.2.1 ∈ px_TB := px_tb (by decide +kernel) (by decide +kernel)
theorem wf_X3_14 : Cond.fieldLink RX3 50 (TX3 14).1 (TX3 14).2.1 (TX3 14).2.2.1 ∈ px_TB := px_tb (by decide +kernel) (by decide +kernel)
theorem wu_X4 : ∀ w ∈ u_ws RX4 TX4 10, w ∈ px_TB := fun w h => px_tb ((by decide +kernel : ∀ w ∈ u_ws RX4 TX4 10, w ∈ lw_tbl) w h) ((by decide +kernel : ∀ w ∈ u_ws RX4 TX4 10, goodWord w = true) w h)
theorem wf_X4_0 : Cond.fieldLink RX4 9 (TX4 0).1 (TX4 0).2.1 (TX4 0).2.2.1 ∈ px_TB := px_tb (by decide +kernel) (by decide +kernel)
theorem wf_X4_1 : Cond.fieldLink RX4 15 (TX4 1).1 (TX4 1).2.1 (TX4 1).2.2.1 ∈ px_TB := px_tb (by decide +kernel) (by decide +kernel)
theorem wf_X4_2 : Cond.fieldLink RX4 18 (TX4 2).1 (TX4 2).2.1 (TX4 2).2.2.1 ∈ px_TB := px_tb (by decide +kernel) (by decide +kernel)
theorem wf_X4_3 : Cond.fieldLink RX4 21 (TX4 3).1 (TX4 3).2.1 (TX4 3).2.2.1 ∈ px_TB := px_tb (by decide +kernel) (by decide +kernel)
theorem wf_X4_4 : Cond.fieldLink RX4 24 (TX4 4).1 (TX4 4).2.1 (TX4 4).2.2.1 ∈ px_TB := px_tb (by decide +kernel) (by decide +kernel)
theorem wf_X4_5 : Cond.fieldLink RX4 27 (TX4 5).1 (TX4 5).2.1 (TX4 5).2.2.1 ∈ px_TB := px_tb (by decide +kernel) (by decide +kernel)
theorem wf_X4_6 : Cond.fieldLink RX4 30 (TX4 6).1 (TX4 6).2.1 (TX4 6).2.2.1 ∈ px_TB := px_tb (by decide +kernel) (by decide +kernel)
theorem wf_X4_7 : Cond.fieldLink RX4 34 (TX4 7).1 (TX4 7).2.1 (TX4 7).2.2.1 ∈ px_TB := px_tb (by decide +kernel) (by decide +kernel)
theorem wf_X4_8 : Cond.fieldLink RX4 37 (TX4 8).1 (TX4 8).2.1 (TX4 8).2.2.1 ∈ px_TB := px_tb (by decide +kernel) (by decide +kernel)
theorem wf_X4_9 : Cond.fieldLink RX4 41 (TX4 9).1 (TX4 9).2.1 (TX4 9).2.2.1 ∈ px_TB := px_tb (by decide +kernel) (by decide +kernel)
theorem wu_X5 : ∀ w ∈ u_ws RX5 TX5 18, w ∈ px_TB := fun w h => px_tb ((by decide +kernel : ∀ w ∈ u_ws RX5 TX5 18, w ∈ lw_tbl) w h) ((by decide +kernel : ∀ w ∈ u_ws RX5 TX5 18, goodWord w = true) w h)
theorem wf_X5_0 : Cond.fieldLink RX5 12 (TX5 0).1 (TX5 0).2.1 (TX5 0).2.2.1 ∈ px_TB := px_tb (by decide +kernel) (by decide +kernel)
theorem wf_X5_1 : Cond.fieldLink RX5 16 (TX5 1).1 (TX5 1).2.1 (TX5 1).2.2.1 ∈ px_TB := px_tb (by decide +kernel) (by decide +kernel)
theorem wf_X5_2 : Cond.fieldLink RX5 25 (TX5 2).1 (TX5 2).2.1 (TX5 2).2.2.1 ∈ px_TB := px_tb (by decide +kernel) (by decide +kernel)
theorem wf_X5_3 : Cond.fieldLink RX5 29 (TX5 3).1 (TX5 3).2.1 (TX5 3).2.2.1 ∈ px_TB := px_tb (by decide +kernel) (by decide +kernel)
theorem wf_X5_4 : Cond.fieldLink RX5 33 (TX5 4).1 (TX5 4).2.1 (TX5 4).2.2.1 ∈ px_TB := px_tb (by decide +kernel) (by decide +kernel)
theorem wf_X5_5 : Cond.fieldLink RX5 39 (TX5 5).1 (TX5 5).2.1 (TX5 5).2.2.1 ∈ px_TB := px_tb (by decide +kernel) (by decide +kernel)
theorem wf_X5_6 : Cond.fieldLink RX5 43 (TX5 6).1 (TX5 6).2.1 (TX5 6).2.2.1 ∈ px_TB := px_tb (by decide +kernel) (by decide +kernel)
theorem wf_X5_7 : Cond.fieldLink RX5 51 (TX5 7).1 (TX5 7).2.1 (TX5 7).2.2.1 ∈ px_TB := px_tb (by decide +kernel) (by decide +kernel)
theorem wf_X5_8 : Cond.fieldLink RX5 58 (TX5 8).1 (TX5 8).2.1 (TX5 8).2.2.1 ∈ px_TB := px_tb (by decide +kernel) (by decide +kernel)
theorem wf_X5_9 : Cond.fieldLink RX5 62 (TX5 9).1 (TX5 9).2.1 (TX5 9).2.2.1 ∈ px_TB := px_tb (by decide +kernel) (by decide +kernel)
theorem wf_X5_10 : Cond.fieldLink RX5 66 (TX5 10).1 (TX5 10).2.1 (TX5 10).2.2.1 ∈ px_TB := px_tb (by decide +kernel) (by decide +kernel)
theorem wf_X5_11 : Cond.fieldLink RX5 69 (TX5 11).1 (TX5 11).2.1 (TX5 11).2.2.1 ∈ px_TB := px_tb (by decide +kernel) (by decide +kernel)
theorem wf_X5_12 : Cond.fieldLink RX5 73 (TX5 12).1 (TX5 12).2.1 (TX5 12).2.2.1 ∈ px_TB := px_tb (by decide +kernel) (by decide +kernel)
theorem wf_X5_13 : Cond.fieldLink RX5 76 (TX5 13).1 (TX5 13).2.1 (TX5 13).2.2.1 ∈ px_TB := px_tb (by decide +kernel) (by decide +kernel)
theorem wf_X5_14 : Cond.fieldLink RX5 79 (TX5 14).1 (TX5 14).2.1 (TX5 14).2.2.1 ∈ px_TB := px_tb (by decide +kernel) (by decide +kernel)
theorem wf_X5_15 : Cond.fieldLink RX5 82 (TX5 15).1 (TX5 15).2.1 (TX5 15).2.2.1 ∈ px_TB := px_tb (by decide +kernel) (by decide +kernel)
theorem wf_X5_16 : Cond.fieldLink RX5 85 (TX5 16).1 (TX5 16).2.1 (TX5 16).2.2.1 ∈ px_TB := px_tb (by decide +kernel) (by decide +kernel)
theorem wf_X5_17 : Cond.fieldLink RX5 88 (TX5 17).1 (TX5 17).2.1 (TX5 17).2.2.1 ∈ px_TB := px_tb (by decide +kernel) (by decide +kernel)
section PXCC
variable {p : Program} {l : Launch} {e : Env} {R : Room} {s : State} {m : MethodId} {args : Array Value} {below : List Frame} {meth : Method} {c : Code} {H H0 : Heap} {locs : List Loc} {cells slots : Nat} {Q : State → Prop} {cc : ByteArray} {pc : Nat} {ls : Array Slot} {rest : List Value} {D : va_G} {cs : Nat → ClassId} {ad : Nat → Nat} {A : Nat → Prop} {M : px_M} {x i : Int32}
theorem rcC_0 (hK : va_K D vwCl (tyC cs) s) (w : px_H D (wC cs ad) A H0 M H locs) : ∃ cell : Cell, H[ad 0]? = some cell ∧ cell.vm.isStatics = false ∧ s.vm.findClass RX5 = some cell.cls := va_recv hK w.1 (ci := 5) (q0 := 0) rfl rfl
theorem gtC_0_0 (X : px_X D (tyC cs) p s m args c cc RX5) (w : px_H D (wC cs ad) A H0 M H locs) (hd : decode cc pc = .ok (.getfield 12, 3)) (kk : W p l e R s m args below meth c H locs cells slots Q (F0 m (pc + 3) ls (.ref (ad 1) :: rest))) : W p l e R s m args below meth c H locs cells slots Q (F0 m pc ls (.ref (ad 0) :: rest)) := va_get (D := D) (ci := 5) (C := RX5) (T := TX5) (N := 18) X.1 X.2.1 X.2.2.1 wu_X5 X.2.2.2.1 X.2.2.2.2 w.1 0 rfl rfl 0 (by decide) (X.2.2.1 _ wf_X5_0) (fun _ h => h) rfl hd kk
theorem gtC_0_1 (X : px_X D (tyC cs) p s m args c cc RX5) (w : px_H D (wC cs ad) A H0 M H locs) (hd : decode cc pc = .ok (.getfield 16, 3)) (kk : W p l e R s m args below meth c H locs cells slots Q (F0 m (pc + 3) ls (.ref (ad 6) :: rest))) : W p l e R s m args below meth c H locs cells slots Q (F0 m pc ls (.ref (ad 0) :: rest)) := va_get (D := D) (ci := 5) (C := RX5) (T := TX5) (N := 18) X.1 X.2.1 X.2.2.1 wu_X5 X.2.2.2.1 X.2.2.2.2 w.1 0 rfl rfl 1 (by decide) (X.2.2.1 _ wf_X5_1) (fun _ h => h) rfl hd kk
theorem gtC_0_2 (X : px_X D (tyC cs) p s m args c cc RX5) (w : px_H D (wC cs ad) A H0 M H locs) (hd : decode cc pc = .ok (.getfield 25, 3)) (kk : W p l e R s m args below meth c H locs cells slots Q (F0 m (pc + 3) ls (.ref (ad 7) :: rest))) : W p l e R s m args below meth c H locs cells slots Q (F0 m pc ls (.ref (ad 0) :: rest)) := va_get (D := D) (ci := 5) (C := RX5) (T := TX5) (N := 18) X.1 X.2.1 X.2.2.1 wu_X5 X.2.2.2.1 X.2.2.2.2 w.1 0 rfl rfl 2 (by decide) (X.2.2.1 _ wf_X5_2) (fun _ h => h) rfl hd kk
theorem gtC_0_3 (X : px_X D (tyC cs) p s m args c cc RX5) (w : px_H D (wC cs ad) A H0 M H locs) (hd : decode cc pc = .ok (.getfield 29, 3)) (kk : W p l e R s m args below meth c H locs cells slots Q (F0 m (pc + 3) ls (.ref (ad 20) :: rest))) : W p l e R s m args below meth c H locs cells slots Q (F0 m pc ls (.ref (ad 0) :: rest)) := va_get (D := D) (ci := 5) (C := RX5) (T := TX5) (N := 18) X.1 X.2.1 X.2.2.1 wu_X5 X.2.2.2.1 X.2.2.2.2 w.1 0 rfl rfl 3 (by decide) (X.2.2.1 _ wf_X5_3) (fun _ h => h) rfl hd kk
theorem gtC_0_4 (X : px_X D (tyC cs) p s m args c cc RX5) (w : px_H D (wC cs ad) A H0 M H locs) (hd : decode cc pc = .ok (.getfield 33, 3)) (kk : W p l e R s m args below meth c H locs cells slots Q (F0 m (pc + 3) ls (.ref (ad 24) :: rest))) : W p l e R s m args below meth c H locs cells slots Q (F0 m pc ls (.ref (ad 0) :: rest)) := va_get (D := D) (ci := 5) (C := RX5) (T := TX5) (N := 18) X.1 X.2.1 X.2.2.1 wu_X5 X.2.2.2.1 X.2.2.2.2 w.1 0 rfl rfl 4 (by decide) (X.2.2.1 _ wf_X5_4) (fun _ h => h) rfl hd kk
theorem gtC_0_5 (X : px_X D (tyC cs) p s m args c cc RX5) (w : px_H D (wC cs ad) A H0 M H locs) (hd : decode cc pc = .ok (.getfield 39, 3)) (kk : W p l e R s m args below meth c H locs cells slots Q (F0 m (pc + 3) ls (.ref (ad 28) :: rest))) : W p l e R s m args below meth c H locs cells slots Q (F0 m pc ls (.ref (ad 0) :: rest)) := va_get (D := D) (ci := 5) (C := RX5) (T := TX5) (N := 18) X.1 X.2.1 X.2.2.1 wu_X5 X.2.2.2.1 X.2.2.2.2 w.1 0 rfl rfl 5 (by decide) (X.2.2.1 _ wf_X5_5) (fun _ h => h) rfl hd kk
theorem gtC_0_6 (X : px_X D (tyC cs) p s m args c cc RX5) (w : px_H D (wC cs ad) A H0 M H locs) (hd : decode cc pc = .ok (.getfield 43, 3)) (kk : W p l e R s m args below meth c H locs cells slots Q (F0 m (pc + 3) ls (.ref (ad 30) :: rest))) : W p l e R s m args below meth c H locs cells slots Q (F0 m pc ls (.ref (ad 0) :: rest)) := va_get (D := D) (ci := 5) (C := RX5) (T := TX5) (N := 18) X.1 X.2.1 X.2.2.1 wu_X5 X.2.2.2.1 X.2.2.2.2 w.1 0 rfl rfl 6 (by decide) (X.2.2.1 _ wf_X5_6) (fun _ h => h) rfl hd kk
theorem gtC_0_7 (X : px_X D (tyC cs) p s m args c cc RX5) (w : px_H D (wC cs ad) A H0 M H locs) (hd : decode cc pc = .ok (.getfield 51, 3)) (kk : W p l e R s m args below meth c H locs cells slots Q (F0 m (pc + 3) ls (.ref (ad 32) :: rest))) : W p l e R s m args below meth c H locs cells slots Q (F0 m pc ls (.ref (ad 0) :: rest)) := va_get (D := D) (ci := 5) (C := RX5) (T := TX5) (N := 18) X.1 X.2.1 X.2.2.1 wu_X5 X.2.2.2.1 X.2.2.2.2 w.1 0 rfl rfl 7 (by decide) (X.2.2.1 _ wf_X5_7) (fun _ h => h) rfl hd kk
theorem gtC_0_8 (X : px_X D (tyC cs) p s m args c cc RX5) (w : px_H D (wC cs ad) A H0 M H locs) (hd : decode cc pc = .ok (.getfield 58, 3)) (kk : W p l e R s m args below meth c H locs cells slots Q (F0 m (pc + 3) ls (.ref (ad 43) :: rest))) : W p l e R s m args below meth c H locs cells slots Q (F0 m pc ls (.ref (ad 0) :: rest)) := va_get (D := D) (ci := 5) (C := RX5) (T := TX5) (N := 18) X.1 X.2.1 X.2.2.1 wu_X5 X.2.2.2.1 X.2.2.2.2 w.1 0 rfl rfl 8 (by decide) (X.2.2.1 _ wf_X5_8) (fun _ h => h) rfl hd kk
theorem gtC_0_9 (X : px_X D (tyC cs) p s m args c cc RX5) (w : px_H D (wC cs ad) A H0 M H locs) (hd : decode cc pc = .ok (.getfield 62, 3)) (kk : W p l e R s m args below meth c H locs cells slots Q (F0 m (pc + 3) ls (.int (M 0 9) :: rest))) : W p l e R s m args below meth c H locs cells slots Q (F0 m pc ls (.ref (ad 0) :: rest)) := va_get (D := D) (ci := 5) (C := RX5) (T := TX5) (N := 18) X.1 X.2.1 X.2.2.1 wu_X5 X.2.2.2.1 X.2.2.2.2 w.1 0 rfl rfl 9 (by decide) (X.2.2.1 _ wf_X5_9) (fun _ h => h) rfl hd kk
theorem ptC_0_9 (X : px_X D (tyC cs) p s m args c cc RX5) (w : px_H D (wC cs ad) A H0 M H locs) (hd : decode cc pc = .ok (.putfield 62, 3)) (kk : ∀ (H : Heap) (locs : List Loc), px_H D (wC cs ad) A H0 (px_up M 0 9 x) H locs → W p l e R s m args below meth c H locs cells slots Q (F0 m (pc + 3) ls rest)) : W p l e R s m args below meth c H locs cells slots Q (F0 m pc ls (.int x :: .ref (ad 0) :: rest)) := va_put (D := D) (ci := 5) (v := .int x) (ty := .int) (C := RX5) (T := TX5) (N := 18) X.1 X.2.1 X.2.2.1 wu_X5 tyX5 tyX5_ok nmX5 X.2.2.2.1 X.2.2.2.2 w.1 w.2.1 w.2.2.1 0 rfl rfl 9 (by decide) (X.2.2.1 _ wf_X5_9) (fun _ h => h) rfl (by decide +kernel) rfl rfl (Nat.le_of_ble_eq_true rfl) hd (fun H1 locs1 hP hD hS => kk H1 locs1 ⟨hP, hD, hS, w.2.2.2⟩)
theorem gtC_0_10 (X : px_X D (tyC cs) p s m args c cc RX5) (w : px_H D (wC cs ad) A H0 M H locs) (hd : decode cc pc = .ok (.getfield 66, 3)) (kk : W p l e R s m args below meth c H locs cells slots Q (F0 m (pc + 3) ls (.int (M 0 10) :: rest))) : W p l e R s m args below meth c H locs cells slots Q (F0 m pc ls (.ref (ad 0) :: rest)) := va_get (D := D) (ci := 5) (C := RX5) (T := TX5) (N := 18) X.1 X.2.1 X.2.2.1 wu_X5 X.2.2.2.1 X.2.2.2.2 w.1 0 rfl rfl 10 (by decide) (X.2.2.1 _ wf_X5_10) (fun _ h => h) rfl hd kk
theorem ptC_0_10 (X : px_X D (tyC cs) p s m args c cc RX5) (w : px_H D (wC cs ad) A H0 M H locs) (hd : decode cc pc = .ok (.putfield 66, 3)) (kk : ∀ (H : Heap) (locs : List Loc), px_H D (wC cs ad) A H0 (px_up M 0 10 x) H locs → W p l e R s m args below meth c H locs cells slots Q (F0 m (pc + 3) ls rest)) : W p l e R s m args below meth c H locs cells slots Q (F0 m pc ls (.int x :: .ref (ad 0) :: rest)) := va_put (D := D) (ci := 5) (v := .int x) (ty := .int) (C := RX5) (T := TX5) (N := 18) X.1 X.2.1 X.2.2.1 wu_X5 tyX5 tyX5_ok nmX5 X.2.2.2.1 X.2.2.2.2 w.1 w.2.1 w.2.2.1 0 rfl rfl 10 (by decide) (X.2.2.1 _ wf_X5_10) (fun _ h => h) rfl (by decide +kernel) rfl rfl (Nat.le_of_ble_eq_true rfl) hd (fun H1 locs1 hP hD hS => kk H1 locs1 ⟨hP, hD, hS, w.2.2.2⟩)
theorem gtC_0_11 (X : px_X D (tyC cs) p s m args c cc RX5) (w : px_H D (wC cs ad) A H0 M H locs) (hd : decode cc pc = .ok (.getfield 69, 3)) (kk : W p l e R s m args below meth c H locs cells slots Q (F0 m (pc + 3) ls (.int (M 0 11) :: rest))) : W p l e R s m args below meth c H locs cells slots Q (F0 m pc ls (.ref (ad 0) :: rest)) := va_get (D := D) (ci := 5) (C := RX5) (T := TX5) (N := 18) X.1 X.2.1 X.2.2.1 wu_X5 X.2.2.2.1 X.2.2.2.2 w.1 0 rfl rfl 11 (by decide) (X.2.2.1 _ wf_X5_11) (fun _ h => h) rfl hd kk
theorem ptC_0_11 (X : px_X D (tyC cs) p s m args c cc RX5) (w : px_H D (wC cs ad) A H0 M H locs) (hz : narrow .boolean (.int x) = .int x) (hd : decode cc pc = .ok (.putfield 69, 3)) (kk : ∀ (H : Heap) (locs : List Loc), px_H D (wC cs ad) A H0 (px_up M 0 11 x) H locs → W p l e R s m args below meth c H locs cells slots Q (F0 m (pc + 3) ls rest)) : W p l e R s m args below meth c H locs cells slots Q (F0 m pc ls (.int x :: .ref (ad 0) :: rest)) := va_put (D := D) (ci := 5) (v := .int x) (ty := .boolean) (C := RX5) (T := TX5) (N := 18) X.1 X.2.1 X.2.2.1 wu_X5 tyX5 tyX5_ok nmX5 X.2.2.2.1 X.2.2.2.2 w.1 w.2.1 w.2.2.1 0 rfl rfl 11 (by decide) (X.2.2.1 _ wf_X5_11) (fun _ h => h) rfl (by decide +kernel) hz (px_fb hz) (Nat.le_of_ble_eq_true rfl) hd (fun H1 locs1 hP hD hS => kk H1 locs1 ⟨hP, hD, hS, w.2.2.2⟩)
theorem gtC_0_12 (X : px_X D (tyC cs) p s m args c cc RX5) (w : px_H D (wC cs ad) A H0 M H locs) (hd : decode cc pc = .ok (.getfield 73, 3)) (kk : W p l e R s m args below meth c H locs cells slots Q (F0 m (pc + 3) ls (.int (M 0 12) :: rest))) : W p l e R s m args below meth c H locs cells slots Q (F0 m pc ls (.ref (ad 0) :: rest)) := va_get (D := D) (ci := 5) (C := RX5) (T := TX5) (N := 18) X.1 X.2.1 X.2.2.1 wu_X5 X.2.2.2.1 X.2.2.2.2 w.1 0 rfl rfl 12 (by decide) (X.2.2.1 _ wf_X5_12) (fun _ h => h) rfl hd kk
theorem ptC_0_12 (X : px_X D (tyC cs) p s m args c cc RX5) (w : px_H D (wC cs ad) A H0 M H locs) (hd : decode cc pc = .ok (.putfield 73, 3)) (kk : ∀ (H : Heap) (locs : List Loc), px_H D (wC cs ad) A H0 (px_up M 0 12 x) H locs → W p l e R s m args below meth c H locs cells slots Q (F0 m (pc + 3) ls rest)) : W p l e R s m args below meth c H locs cells slots Q (F0 m pc ls (.int x :: .ref (ad 0) :: rest)) := va_put (D := D) (ci := 5) (v := .int x) (ty := .int) (C := RX5) (T := TX5) (N := 18) X.1 X.2.1 X.2.2.1 wu_X5 tyX5 tyX5_ok nmX5 X.2.2.2.1 X.2.2.2.2 w.1 w.2.1 w.2.2.1 0 rfl rfl 12 (by decide) (X.2.2.1 _ wf_X5_12) (fun _ h => h) rfl (by decide +kernel) rfl rfl (Nat.le_of_ble_eq_true rfl) hd (fun H1 locs1 hP hD hS => kk H1 locs1 ⟨hP, hD, hS, w.2.2.2⟩)
theorem gtC_0_13 (X : px_X D (tyC cs) p s m args c cc RX5) (w : px_H D (wC cs ad) A H0 M H locs) (hd : decode cc pc = .ok (.getfield 76, 3)) (kk : W p l e R s m args below meth c H locs cells slots Q (F0 m (pc + 3) ls (.int (M 0 13) :: rest))) : W p l e R s m args below meth c H locs cells slots Q (F0 m pc ls (.ref (ad 0) :: rest)) := va_get (D := D) (ci := 5) (C := RX5) (T := TX5) (N := 18) X.1 X.2.1 X.2.2.1 wu_X5 X.2.2.2.1 X.2.2.2.2 w.1 0 rfl rfl 13 (by decide) (X.2.2.1 _ wf_X5_13) (fun _ h => h) rfl hd kk
theorem ptC_0_13 (X : px_X D (tyC cs) p s m args c cc RX5) (w : px_H D (wC cs ad) A H0 M H locs) (hd : decode cc pc = .ok (.putfield 76, 3)) (kk : ∀ (H : Heap) (locs : List Loc), px_H D (wC cs ad) A H0 (px_up M 0 13 x) H locs → W p l e R s m args below meth c H locs cells slots Q (F0 m (pc + 3) ls rest)) : W p l e R s m args below meth c H locs cells slots Q (F0 m pc ls (.int x :: .ref (ad 0) :: rest)) := va_put (D := D) (ci := 5) (v := .int x) (ty := .int) (C := RX5) (T := TX5) (N := 18) X.1 X.2.1 X.2.2.1 wu_X5 tyX5 tyX5_ok nmX5 X.2.2.2.1 X.2.2.2.2 w.1 w.2.1 w.2.2.1 0 rfl rfl 13 (by decide) (X.2.2.1 _ wf_X5_13) (fun _ h => h) rfl (by decide +kernel) rfl rfl (Nat.le_of_ble_eq_true rfl) hd (fun H1 locs1 hP hD hS => kk H1 locs1 ⟨hP, hD, hS, w.2.2.2⟩)
theorem gtC_0_14 (X : px_X D (tyC cs) p s m args c cc RX5) (w : px_H D (wC cs ad) A H0 M H locs) (hd : decode cc pc = .ok (.getfield 79, 3)) (kk : W p l e R s m args below meth c H locs cells slots Q (F0 m (pc + 3) ls (.int (M 0 14) :: rest))) : W p l e R s m args below meth c H locs cells slots Q (F0 m pc ls (.ref (ad 0) :: rest)) := va_get (D := D) (ci := 5) (C := RX5) (T := TX5) (N := 18) X.1 X.2.1 X.2.2.1 wu_X5 X.2.2.2.1 X.2.2.2.2 w.1 0 rfl rfl 14 (by decide) (X.2.2.1 _ wf_X5_14) (fun _ h => h) rfl hd kk
theorem ptC_0_14 (X : px_X D (tyC cs) p s m args c cc RX5) (w : px_H D (wC cs ad) A H0 M H locs) (hd : decode cc pc = .ok (.putfield 79, 3)) (kk : ∀ (H : Heap) (locs : List Loc), px_H D (wC cs ad) A H0 (px_up M 0 14 x) H locs → W p l e R s m args below meth c H locs cells slots Q (F0 m (pc + 3) ls rest)) : W p l e R s m args below meth c H locs cells slots Q (F0 m pc ls (.int x :: .ref (ad 0) :: rest)) := va_put (D := D) (ci := 5) (v := .int x) (ty := .int) (C := RX5) (T := TX5) (N := 18) X.1 X.2.1 X.2.2.1 wu_X5 tyX5 tyX5_ok nmX5 X.2.2.2.1 X.2.2.2.2 w.1 w.2.1 w.2.2.1 0 rfl rfl 14 (by decide) (X.2.2.1 _ wf_X5_14) (fun _ h => h) rfl (by decide +kernel) rfl rfl (Nat.le_of_ble_eq_true rfl) hd (fun H1 locs1 hP hD hS => kk H1 locs1 ⟨hP, hD, hS, w.2.2.2⟩)
theorem gtC_0_15 (X : px_X D (tyC cs) p s m args c cc RX5) (w : px_H D (wC cs ad) A H0 M H locs) (hd : decode cc pc = .ok (.getfield 82, 3)) (kk : W p l e R s m args below meth c H locs cells slots Q (F0 m (pc + 3) ls (.int (M 0 15) :: rest))) : W p l e R s m args below meth c H locs cells slots Q (F0 m pc ls (.ref (ad 0) :: rest)) := va_get (D := D) (ci := 5) (C := RX5) (T := TX5) (N := 18) X.1 X.2.1 X.2.2.1 wu_X5 X.2.2.2.1 X.2.2.2.2 w.1 0 rfl rfl 15 (by decide) (X.2.2.1 _ wf_X5_15) (fun _ h => h) rfl hd kk
theorem ptC_0_15 (X : px_X D (tyC cs) p s m args c cc RX5) (w : px_H D (wC cs ad) A H0 M H locs) (hz : narrow .boolean (.int x) = .int x) (hd : decode cc pc = .ok (.putfield 82, 3)) (kk : ∀ (H : Heap) (locs : List Loc), px_H D (wC cs ad) A H0 (px_up M 0 15 x) H locs → W p l e R s m args below meth c H locs cells slots Q (F0 m (pc + 3) ls rest)) : W p l e R s m args below meth c H locs cells slots Q (F0 m pc ls (.int x :: .ref (ad 0) :: rest)) := va_put (D := D) (ci := 5) (v := .int x) (ty := .boolean) (C := RX5) (T := TX5) (N := 18) X.1 X.2.1 X.2.2.1 wu_X5 tyX5 tyX5_ok nmX5 X.2.2.2.1 X.2.2.2.2 w.1 w.2.1 w.2.2.1 0 rfl rfl 15 (by decide) (X.2.2.1 _ wf_X5_15) (fun _ h => h) rfl (by decide +kernel) hz (px_fb hz) (Nat.le_of_ble_eq_true rfl) hd (fun H1 locs1 hP hD hS => kk H1 locs1 ⟨hP, hD, hS, w.2.2.2⟩)
theorem gtC_0_16 (X : px_X D (tyC cs) p s m args c cc RX5) (w : px_H D (wC cs ad) A H0 M H locs) (hd : decode cc pc = .ok (.getfield 85, 3)) (kk : W p l e R s m args below meth c H locs cells slots Q (F0 m (pc + 3) ls (.int (M 0 16) :: rest))) : W p l e R s m args below meth c H locs cells slots Q (F0 m pc ls (.ref (ad 0) :: rest)) := va_get (D := D) (ci := 5) (C := RX5) (T := TX5) (N := 18) X.1 X.2.1 X.2.2.1 wu_X5 X.2.2.2.1 X.2.2.2.2 w.1 0 rfl rfl 16 (by decide) (X.2.2.1 _ wf_X5_16) (fun _ h => h) rfl hd kk
theorem ptC_0_16 (X : px_X D (tyC cs) p s m args c cc RX5) (w : px_H D (wC cs ad) A H0 M H locs) (hz : narrow .boolean (.int x) = .int x) (hd : decode cc pc = .ok (.putfield 85, 3)) (kk : ∀ (H : Heap) (locs : List Loc), px_H D (wC cs ad) A H0 (px_up M 0 16 x) H locs → W p l e R s m args below meth c H locs cells slots Q (F0 m (pc + 3) ls rest)) : W p l e R s m args below meth c H locs cells slots Q (F0 m pc ls (.int x :: .ref (ad 0) :: rest)) := va_put (D := D) (ci := 5) (v := .int x) (ty := .boolean) (C := RX5) (T := TX5) (N := 18) X.1 X.2.1 X.2.2.1 wu_X5 tyX5 tyX5_ok nmX5 X.2.2.2.1 X.2.2.2.2 w.1 w.2.1 w.2.2.1 0 rfl rfl 16 (by decide) (X.2.2.1 _ wf_X5_16) (fun _ h => h) rfl (by decide +kernel) hz (px_fb hz) (Nat.le_of_ble_eq_true rfl) hd (fun H1 locs1 hP hD hS => kk H1 locs1 ⟨hP, hD, hS, w.2.2.2⟩)
theorem gtC_0_17 (X : px_X D (tyC cs) p s m args c cc RX5) (w : px_H D (wC cs ad) A H0 M H locs) (hd : decode cc pc = .ok (.getfield 88, 3)) (kk : W p l e R s m args below meth c H locs cells slots Q (F0 m (pc + 3) ls (.int (M 0 17) :: rest))) : W p l e R s m args below meth c H locs cells slots Q (F0 m pc ls (.ref (ad 0) :: rest)) := va_get (D := D) (ci := 5) (C := RX5) (T := TX5) (N := 18) X.1 X.2.1 X.2.2.1 wu_X5 X.2.2.2.1 X.2.2.2.2 w.1 0 rfl rfl 17 (by decide) (X.2.2.1 _ wf_X5_17) (fun _ h => h) rfl hd kk
theorem ptC_0_17 (X : px_X D (tyC cs) p s m args c cc RX5) (w : px_H D (wC cs ad) A H0 M H locs) (hd : decode cc pc = .ok (.putfield 88, 3)) (kk : ∀ (H : Heap) (locs : List Loc), px_H D (wC cs ad) A H0 (px_up M 0 17 x) H locs → W p l e R s m args below meth c H locs cells slots Q (F0 m (pc + 3) ls rest)) : W p l e R s m args below meth c H locs cells slots Q (F0 m pc ls (.int x :: .ref (ad 0) :: rest)) := va_put (D := D) (ci := 5) (v := .int x) (ty := .int) (C := RX5) (T := TX5) (N := 18) X.1 X.2.1 X.2.2.1 wu_X5 tyX5 tyX5_ok nmX5 X.2.2.2.1 X.2.2.2.2 w.1 w.2.1 w.2.2.1 0 rfl rfl 17 (by decide) (X.2.2.1 _ wf_X5_17) (fun _ h => h) rfl (by decide +kernel) rfl rfl (Nat.le_of_ble_eq_true rfl) hd (fun H1 locs1 hP hD hS => kk H1 locs1 ⟨hP, hD, hS, w.2.2.2⟩)
theorem rcC_1 (hK : va_K D vwCl (tyC cs) s) (w : px_H D (wC cs ad) A H0 M H locs) : ∃ cell : Cell, H[ad 1]? = some cell ∧ cell.vm.isStatics = false ∧ s.vm.findClass RX0 = some cell.cls := va_recv hK w.1 (ci := 0) (q0 := 1) rfl rfl
theorem gtC_1_0 (X : px_X D (tyC cs) p s m args c cc RX0) (w : px_H D (wC cs ad) A H0 M H locs) (hd : decode cc pc = .ok (.getfield 9, 3)) (kk : W p l e R s m args below meth c H locs cells slots Q (F0 m (pc + 3) ls (.ref (ad 2) :: rest))) : W p l e R s m args below meth c H locs cells slots Q (F0 m pc ls (.ref (ad 1) :: rest)) := va_get (D := D) (ci := 0) (C := RX0) (T := TX0) (N := 4) X.1 X.2.1 X.2.2.1 wu_X0 X.2.2.2.1 X.2.2.2.2 w.1 1 rfl rfl 0 (by decide) (X.2.2.1 _ wf_X0_0) (fun _ h => h) rfl hd kk
theorem gtC_1_1 (X : px_X D (tyC cs) p s m args c cc RX0) (w : px_H D (wC cs ad) A H0 M H locs) (hd : decode cc pc = .ok (.getfield 15, 3)) (kk : W p l e R s m args below meth c H locs cells slots Q (F0 m (pc + 3) ls (.ref (ad 3) :: rest))) : W p l e R s m args below meth c H locs cells slots Q (F0 m pc ls (.ref (ad 1) :: rest)) := va_get (D := D) (ci := 0) (C := RX0) (T := TX0) (N := 4) X.1 X.2.1 X.2.2.1 wu_X0 X.2.2.2.1 X.2.2.2.2 w.1 1 rfl rfl 1 (by decide) (X.2.2.1 _ wf_X0_1) (fun _ h => h) rfl hd kk
theorem gtC_1_2 (X : px_X D (tyC cs) p s m args c cc RX0) (w : px_H D (wC cs ad) A H0 M H locs) (hd : decode cc pc = .ok (.getfield 18, 3)) (kk : W p l e R s m args below meth c H locs cells slots Q (F0 m (pc + 3) ls (.ref (ad 4) :: rest))) : W p l e R s m args below meth c H locs cells slots Q (F0 m pc ls (.ref (ad 1) :: rest)) := va_get (D := D) (ci := 0) (C := RX0) (T := TX0) (N := 4) X.1 X.2.1 X.2.2.1 wu_X0 X.2.2.2.1 X.2.2.2.2 w.1 1 rfl rfl 2 (by decide) (X.2.2.1 _ wf_X0_2) (fun _ h => h) rfl hd kk
theorem gtC_1_3 (X : px_X D (tyC cs) p s m args c cc RX0) (w : px_H D (wC cs ad) A H0 M H locs) (hd : decode cc pc = .ok (.getfield 21, 3)) (kk : W p l e R s m args below meth c H locs cells slots Q (F0 m (pc + 3) ls (.ref (ad 5) :: rest))) : W p l e R s m args below meth c H locs cells slots Q (F0 m pc ls (.ref (ad 1) :: rest)) := va_get (D := D) (ci := 0) (C := RX0) (T := TX0) (N := 4) X.1 X.2.1 X.2.2.1 wu_X0 X.2.2.2.1 X.2.2.2.2 w.1 1 rfl rfl 3 (by decide) (X.2.2.1 _ wf_X0_3) (fun _ h => h) rfl hd kk
theorem ilC_2 {own : String} (X : px_X D (tyC cs) p s m args c cc own) (w : px_H D (wC cs ad) A H0 M H locs) (hi : vp_in i 10) (hd : decode cc pc = .ok (.iaload, 1)) (kk : W p l e R s m args below meth c H locs cells slots Q (F0 m (pc + 1) ls (.int (M 2 i.toNatClampNeg) :: rest))) : W p l e R s m args below meth c H locs cells slots Q (F0 m pc ls (.int i :: .ref (ad 2) :: rest)) := va_iald X.1 X.2.1 X.2.2.2.2 w.1 2 0 rfl rfl hi hd kk
theorem isC_2 {own : String} (X : px_X D (tyC cs) p s m args c cc own) (w : px_H D (wC cs ad) A H0 M H locs) (hi : vp_in i 10) (hd : decode cc pc = .ok (.iastore, 1)) (kk : ∀ (H : Heap) (locs : List Loc), px_H D (wC cs ad) A H0 (px_up M 2 i.toNatClampNeg x) H locs → W p l e R s m args below meth c H locs cells slots Q (F0 m (pc + 1) ls rest)) : W p l e R s m args below meth c H locs cells slots Q (F0 m pc ls (.int x :: .int i :: .ref (ad 2) :: rest)) := va_iast X.1 X.2.1 X.2.2.2.2 w.1 w.2.1 w.2.2.1 2 0 rfl rfl hi hd (fun H1 locs1 hP hD hS => kk H1 locs1 ⟨hP, hD, hS, w.2.2.2⟩)
theorem ilC_3 {own : String} (X : px_X D (tyC cs) p s m args c cc own) (w : px_H D (wC cs ad) A H0 M H locs) (hi : vp_in i 60) (hd : decode cc pc = .ok (.iaload, 1)) (kk : W p l e R s m args below meth c H locs cells slots Q (F0 m (pc + 1) ls (.int (M 3 i.toNatClampNeg) :: rest))) : W p l e R s m args below meth c H locs cells slots Q (F0 m pc ls (.int i :: .ref (ad 3) :: rest)) := va_iald X.1 X.2.1 X.2.2.2.2 w.1 3 0 rfl rfl hi hd kk
theorem isC_3 {own : String} (X : px_X D (tyC cs) p s m args c cc own) (w : px_H D (wC cs ad) A H0 M H locs) (hi : vp_in i 60) (hd : decode cc pc = .ok (.iastore, 1)) (kk : ∀ (H : Heap) (locs : List Loc), px_H D (wC cs ad) A H0 (px_up M 3 i.toNatClampNeg x) H locs → W p l e R s m args below meth c H locs cells slots Q (F0 m (pc + 1) ls rest)) : W p l e R s m args below meth c H locs cells slots Q (F0 m pc ls (.int x :: .int i :: .ref (ad 3) :: rest)) := va_iast X.1 X.2.1 X.2.2.2.2 w.1 w.2.1 w.2.2.1 3 0 rfl rfl hi hd (fun H1 locs1 hP hD hS => kk H1 locs1 ⟨hP, hD, hS, w.2.2.2⟩)
theorem ilC_4 {own : String} (X : px_X D (tyC cs) p s m args c cc own) (w : px_H D (wC cs ad) A H0 M H locs) (hi : vp_in i 60) (hd : decode cc pc = .ok (.iaload, 1)) (kk : W p l e R s m args below meth c H locs cells slots Q (F0 m (pc + 1) ls (.int (M 4 i.toNatClampNeg) :: rest))) : W p l e R s m args below meth c H locs cells slots Q (F0 m pc ls (.int i :: .ref (ad 4) :: rest)) := va_iald X.1 X.2.1 X.2.2.2.2 w.1 4 0 rfl rfl hi hd kk
theorem isC_4 {own : String} (X : px_X D (tyC cs) p s m args c cc own) (w : px_H D (wC cs ad) A H0 M H locs) (hi : vp_in i 60) (hd : decode cc pc = .ok (.iastore, 1)) (kk : ∀ (H : Heap) (locs : List Loc), px_H D (wC cs ad) A H0 (px_up M 4 i.toNatClampNeg x) H locs → W p l e R s m args below meth c H locs cells slots Q (F0 m (pc + 1) ls rest)) : W p l e R s m args below meth c H locs cells slots Q (F0 m pc ls (.int x :: .int i :: .ref (ad 4) :: rest)) := va_iast X.1 X.2.1 X.2.2.2.2 w.1 w.2.1 w.2.2.1 4 0 rfl rfl hi hd (fun H1 locs1 hP hD hS => kk H1 locs1 ⟨hP, hD, hS, w.2.2.2⟩)
theorem ilC_5 {own : String} (X : px_X D (tyC cs) p s m args c cc own) (w : px_H D (wC cs ad) A H0 M H locs) (hi : vp_in i 60) (hd : decode cc pc = .ok (.iaload, 1)) (kk : W p l e R s m args below meth c H locs cells slots Q (F0 m (pc + 1) ls (.int (M 5 i.toNatClampNeg) :: rest))) : W p l e R s m args below meth c H locs cells slots Q (F0 m pc ls (.int i :: .ref (ad 5) :: rest)) := va_iald X.1 X.2.1 X.2.2.2.2 w.1 5 0 rfl rfl hi hd kk
theorem isC_5 {own : String} (X : px_X D (tyC cs) p s m args c cc own) (w : px_H D (wC cs ad) A H0 M H locs) (hi : vp_in i 60) (hd : decode cc pc = .ok (.iastore, 1)) (kk : ∀ (H : Heap) (locs : List Loc), px_H D (wC cs ad) A H0 (px_up M 5 i.toNatClampNeg x) H locs → W p l e R s m args below meth c H locs cells slots Q (F0 m (pc + 1) ls rest)) : W p l e R s m args below meth c H locs cells slots Q (F0 m pc ls (.int x :: .int i :: .ref (ad 5) :: rest)) := va_iast X.1 X.2.1 X.2.2.2.2 w.1 w.2.1 w.2.2.1 5 0 rfl rfl hi hd (fun H1 locs1 hP hD hS => kk H1 locs1 ⟨hP, hD, hS, w.2.2.2⟩)
theorem ilC_6 {own : String} (X : px_X D (tyC cs) p s m args c cc own) (w : px_H D (wC cs ad) A H0 M H locs) (hi : vp_in i 8) (hd : decode cc pc = .ok (.iaload, 1)) (kk : W p l e R s m args below meth c H locs cells slots Q (F0 m (pc + 1) ls (.int (M 6 i.toNatClampNeg) :: rest))) : W p l e R s m args below meth c H locs cells slots Q (F0 m pc ls (.int i :: .ref (ad 6) :: rest)) := va_iald X.1 X.2.1 X.2.2.2.2 w.1 6 0 rfl rfl hi hd kk
theorem isC_6 {own : String} (X : px_X D (tyC cs) p s m args c cc own) (w : px_H D (wC cs ad) A H0 M H locs) (hi : vp_in i 8) (hd : decode cc pc = .ok (.iastore, 1)) (kk : ∀ (H : Heap) (locs : List Loc), px_H D (wC cs ad) A H0 (px_up M 6 i.toNatClampNeg x) H locs → W p l e R s m args below meth c H locs cells slots Q (F0 m (pc + 1) ls rest)) : W p l e R s m args below meth c H locs cells slots Q (F0 m pc ls (.int x :: .int i :: .ref (ad 6) :: rest)) := va_iast X.1 X.2.1 X.2.2.2.2 w.1 w.2.1 w.2.2.1 6 0 rfl rfl hi hd (fun H1 locs1 hP hD hS => kk H1 locs1 ⟨hP, hD, hS, w.2.2.2⟩)
theorem alC_7_0 {own : String} (X : px_X D (tyC cs) p s m args c cc own) (w : px_H D (wC cs ad) A H0 M H locs) (hi : i = 0) (hd : decode cc pc = .ok (.aaload, 1)) (kk : W p l e R s m args below meth c H locs cells slots Q (F0 m (pc + 1) ls (.ref (ad 8) :: rest))) : W p l e R s m args below meth c H locs cells slots Q (F0 m pc ls (.int i :: .ref (ad 7) :: rest)) := by
  subst hi
  refine va_aldq X.1 X.2.1 X.2.2.2.2 w.1 7 2 rfl rfl (by unfold vp_in; decide) hd ?_
  rw [show ((0 : Int32)).toNatClampNeg = 0 by decide]
  exact kk
theorem alC_7_1 {own : String} (X : px_X D (tyC cs) p s m args c cc own) (w : px_H D (wC cs ad) A H0 M H locs) (hi : i = 1) (hd : decode cc pc = .ok (.aaload, 1)) (kk : W p l e R s m args below meth c H locs cells slots Q (F0 m (pc + 1) ls (.ref (ad 12) :: rest))) : W p l e R s m args below meth c H locs cells slots Q (F0 m pc ls (.int i :: .ref (ad 7) :: rest)) := by
  subst hi
  refine va_aldq X.1 X.2.1 X.2.2.2.2 w.1 7 2 rfl rfl (by unfold vp_in; decide) hd ?_
  rw [show ((1 : Int32)).toNatClampNeg = 1 by decide]
  exact kk
theorem alC_7_2 {own : String} (X : px_X D (tyC cs) p s m args c cc own) (w : px_H D (wC cs ad) A H0 M H locs) (hi : i = 2) (hd : decode cc pc = .ok (.aaload, 1)) (kk : W p l e R s m args below meth c H locs cells slots Q (F0 m (pc + 1) ls (.ref (ad 16) :: rest))) : W p l e R s m args below meth c H locs cells slots Q (F0 m pc ls (.int i :: .ref (ad 7) :: rest)) := by
  subst hi
  refine va_aldq X.1 X.2.1 X.2.2.2.2 w.1 7 2 rfl rfl (by unfold vp_in; decide) hd ?_
  rw [show ((2 : Int32)).toNatClampNeg = 2 by decide]
  exact kk
theorem rcC_8 (hK : va_K D vwCl (tyC cs) s) (w : px_H D (wC cs ad) A H0 M H locs) : ∃ cell : Cell, H[ad 8]? = some cell ∧ cell.vm.isStatics = false ∧ s.vm.findClass RX2 = some cell.cls := va_recv hK w.1 (ci := 2) (q0 := 8) rfl rfl
theorem gtC_8_0 (X : px_X D (tyC cs) p s m args c cc RX2) (w : px_H D (wC cs ad) A H0 M H locs) (hd : decode cc pc = .ok (.getfield 16, 3)) (kk : W p l e R s m args below meth c H locs cells slots Q (F0 m (pc + 3) ls (.int (M 8 0) :: rest))) : W p l e R s m args below meth c H locs cells slots Q (F0 m pc ls (.ref (ad 8) :: rest)) := va_get (D := D) (ci := 2) (C := RX2) (T := TX2) (N := 6) X.1 X.2.1 X.2.2.1 wu_X2 X.2.2.2.1 X.2.2.2.2 w.1 8 rfl rfl 0 (by decide) (X.2.2.1 _ wf_X2_0) (fun _ h => h) rfl hd kk
theorem gtC_8_1 (X : px_X D (tyC cs) p s m args c cc RX2) (w : px_H D (wC cs ad) A H0 M H locs) (hd : decode cc pc = .ok (.getfield 19, 3)) (kk : W p l e R s m args below meth c H locs cells slots Q (F0 m (pc + 3) ls (.ref (ad 9) :: rest))) : W p l e R s m args below meth c H locs cells slots Q (F0 m pc ls (.ref (ad 8) :: rest)) := va_get (D := D) (ci := 2) (C := RX2) (T := TX2) (N := 6) X.1 X.2.1 X.2.2.1 wu_X2 X.2.2.2.1 X.2.2.2.2 w.1 8 rfl rfl 1 (by decide) (X.2.2.1 _ wf_X2_1) (fun _ h => h) rfl hd kk
theorem gtC_8_2 (X : px_X D (tyC cs) p s m args c cc RX2) (w : px_H D (wC cs ad) A H0 M H locs) (hd : decode cc pc = .ok (.getfield 23, 3)) (kk : W p l e R s m args below meth c H locs cells slots Q (F0 m (pc + 3) ls (.ref (ad 10) :: rest))) : W p l e R s m args below meth c H locs cells slots Q (F0 m pc ls (.ref (ad 8) :: rest)) := va_get (D := D) (ci := 2) (C := RX2) (T := TX2) (N := 6) X.1 X.2.1 X.2.2.1 wu_X2 X.2.2.2.1 X.2.2.2.2 w.1 8 rfl rfl 2 (by decide) (X.2.2.1 _ wf_X2_2) (fun _ h => h) rfl hd kk
theorem gtC_8_3 (X : px_X D (tyC cs) p s m args c cc RX2) (w : px_H D (wC cs ad) A H0 M H locs) (hd : decode cc pc = .ok (.getfield 26, 3)) (kk : W p l e R s m args below meth c H locs cells slots Q (F0 m (pc + 3) ls (.ref (ad 11) :: rest))) : W p l e R s m args below meth c H locs cells slots Q (F0 m pc ls (.ref (ad 8) :: rest)) := va_get (D := D) (ci := 2) (C := RX2) (T := TX2) (N := 6) X.1 X.2.1 X.2.2.1 wu_X2 X.2.2.2.1 X.2.2.2.2 w.1 8 rfl rfl 3 (by decide) (X.2.2.1 _ wf_X2_3) (fun _ h => h) rfl hd kk
theorem gtC_8_4 (X : px_X D (tyC cs) p s m args c cc RX2) (w : px_H D (wC cs ad) A H0 M H locs) (hd : decode cc pc = .ok (.getfield 7, 3)) (kk : W p l e R s m args below meth c H locs cells slots Q (F0 m (pc + 3) ls (.int (M 8 4) :: rest))) : W p l e R s m args below meth c H locs cells slots Q (F0 m pc ls (.ref (ad 8) :: rest)) := va_get (D := D) (ci := 2) (C := RX2) (T := TX2) (N := 6) X.1 X.2.1 X.2.2.1 wu_X2 X.2.2.2.1 X.2.2.2.2 w.1 8 rfl rfl 4 (by decide) (X.2.2.1 _ wf_X2_4) (fun _ h => h) rfl hd kk
theorem ptC_8_4 (X : px_X D (tyC cs) p s m args c cc RX2) (w : px_H D (wC cs ad) A H0 M H locs) (hd : decode cc pc = .ok (.putfield 7, 3)) (kk : ∀ (H : Heap) (locs : List Loc), px_H D (wC cs ad) A H0 (px_up M 8 4 x) H locs → W p l e R s m args below meth c H locs cells slots Q (F0 m (pc + 3) ls rest)) : W p l e R s m args below meth c H locs cells slots Q (F0 m pc ls (.int x :: .ref (ad 8) :: rest)) := va_put (D := D) (ci := 2) (v := .int x) (ty := .int) (C := RX2) (T := TX2) (N := 6) X.1 X.2.1 X.2.2.1 wu_X2 tyX2 tyX2_ok nmX2 X.2.2.2.1 X.2.2.2.2 w.1 w.2.1 w.2.2.1 8 rfl rfl 4 (by decide) (X.2.2.1 _ wf_X2_4) (fun _ h => h) rfl (by decide +kernel) rfl rfl (Nat.le_of_ble_eq_true rfl) hd (fun H1 locs1 hP hD hS => kk H1 locs1 ⟨hP, hD, hS, w.2.2.2⟩)
theorem gtC_8_5 (X : px_X D (tyC cs) p s m args c cc RX2) (w : px_H D (wC cs ad) A H0 M H locs) (hd : decode cc pc = .ok (.getfield 13, 3)) (kk : W p l e R s m args below meth c H locs cells slots Q (F0 m (pc + 3) ls (.int (M 8 5) :: rest))) : W p l e R s m args below meth c H locs cells slots Q (F0 m pc ls (.ref (ad 8) :: rest)) := va_get (D := D) (ci := 2) (C := RX2) (T := TX2) (N := 6) X.1 X.2.1 X.2.2.1 wu_X2 X.2.2.2.1 X.2.2.2.2 w.1 8 rfl rfl 5 (by decide) (X.2.2.1 _ wf_X2_5) (fun _ h => h) rfl hd kk
theorem ptC_8_5 (X : px_X D (tyC cs) p s m args c cc RX2) (w : px_H D (wC cs ad) A H0 M H locs) (hd : decode cc pc = .ok (.putfield 13, 3)) (kk : ∀ (H : Heap) (locs : List Loc), px_H D (wC cs ad) A H0 (px_up M 8 5 x) H locs → W p l e R s m args below meth c H locs cells slots Q (F0 m (pc + 3) ls rest)) : W p l e R s m args below meth c H locs cells slots Q (F0 m pc ls (.int x :: .ref (ad 8) :: rest)) := va_put (D := D) (ci := 2) (v := .int x) (ty := .int) (C := RX2) (T := TX2) (N := 6) X.1 X.2.1 X.2.2.1 wu_X2 tyX2 tyX2_ok nmX2 X.2.2.2.1 X.2.2.2.2 w.1 w.2.1 w.2.2.1 8 rfl rfl 5 (by decide) (X.2.2.1 _ wf_X2_5) (fun _ h => h) rfl (by decide +kernel) rfl rfl (Nat.le_of_ble_eq_true rfl) hd (fun H1 locs1 hP hD hS => kk H1 locs1 ⟨hP, hD, hS, w.2.2.2⟩)
theorem ilC_9 {own : String} (X : px_X D (tyC cs) p s m args c cc own) (w : px_H D (wC cs ad) A H0 M H locs) (hi : vp_in i 40) (hd : decode cc pc = .ok (.iaload, 1)) (kk : W p l e R s m args below meth c H locs cells slots Q (F0 m (pc + 1) ls (.int (M 9 i.toNatClampNeg) :: rest))) : W p l e R s m args below meth c H locs cells slots Q (F0 m pc ls (.int i :: .ref (ad 9) :: rest)) := va_iald X.1 X.2.1 X.2.2.2.2 w.1 9 0 rfl rfl hi hd kk
theorem isC_9 {own : String} (X : px_X D (tyC cs) p s m args c cc own) (w : px_H D (wC cs ad) A H0 M H locs) (hi : vp_in i 40) (hd : decode cc pc = .ok (.iastore, 1)) (kk : ∀ (H : Heap) (locs : List Loc), px_H D (wC cs ad) A H0 (px_up M 9 i.toNatClampNeg x) H locs → W p l e R s m args below meth c H locs cells slots Q (F0 m (pc + 1) ls rest)) : W p l e R s m args below meth c H locs cells slots Q (F0 m pc ls (.int x :: .int i :: .ref (ad 9) :: rest)) := va_iast X.1 X.2.1 X.2.2.2.2 w.1 w.2.1 w.2.2.1 9 0 rfl rfl hi hd (fun H1 locs1 hP hD hS => kk H1 locs1 ⟨hP, hD, hS, w.2.2.2⟩)
theorem ilC_10 {own : String} (X : px_X D (tyC cs) p s m args c cc own) (w : px_H D (wC cs ad) A H0 M H locs) (hi : vp_in i 40) (hd : decode cc pc = .ok (.iaload, 1)) (kk : W p l e R s m args below meth c H locs cells slots Q (F0 m (pc + 1) ls (.int (M 10 i.toNatClampNeg) :: rest))) : W p l e R s m args below meth c H locs cells slots Q (F0 m pc ls (.int i :: .ref (ad 10) :: rest)) := va_iald X.1 X.2.1 X.2.2.2.2 w.1 10 0 rfl rfl hi hd kk
theorem isC_10 {own : String} (X : px_X D (tyC cs) p s m args c cc own) (w : px_H D (wC cs ad) A H0 M H locs) (hi : vp_in i 40) (hd : decode cc pc = .ok (.iastore, 1)) (kk : ∀ (H : Heap) (locs : List Loc), px_H D (wC cs ad) A H0 (px_up M 10 i.toNatClampNeg x) H locs → W p l e R s m args below meth c H locs cells slots Q (F0 m (pc + 1) ls rest)) : W p l e R s m args below meth c H locs cells slots Q (F0 m pc ls (.int x :: .int i :: .ref (ad 10) :: rest)) := va_iast X.1 X.2.1 X.2.2.2.2 w.1 w.2.1 w.2.2.1 10 0 rfl rfl hi hd (fun H1 locs1 hP hD hS => kk H1 locs1 ⟨hP, hD, hS, w.2.2.2⟩)
theorem ilC_11 {own : String} (X : px_X D (tyC cs) p s m args c cc own) (w : px_H D (wC cs ad) A H0 M H locs) (hi : vp_in i 40) (hd : decode cc pc = .ok (.iaload, 1)) (kk : W p l e R s m args below meth c H locs cells slots Q (F0 m (pc + 1) ls (.int (M 11 i.toNatClampNeg) :: rest))) : W p l e R s m args below meth c H locs cells slots Q (F0 m pc ls (.int i :: .ref (ad 11) :: rest)) := va_iald X.1 X.2.1 X.2.2.2.2 w.1 11 0 rfl rfl hi hd kk
theorem isC_11 {own : String} (X : px_X D (tyC cs) p s m args c cc own) (w : px_H D (wC cs ad) A H0 M H locs) (hi : vp_in i 40) (hd : decode cc pc = .ok (.iastore, 1)) (kk : ∀ (H : Heap) (locs : List Loc), px_H D (wC cs ad) A H0 (px_up M 11 i.toNatClampNeg x) H locs → W p l e R s m args below meth c H locs cells slots Q (F0 m (pc + 1) ls rest)) : W p l e R s m args below meth c H locs cells slots Q (F0 m pc ls (.int x :: .int i :: .ref (ad 11) :: rest)) := va_iast X.1 X.2.1 X.2.2.2.2 w.1 w.2.1 w.2.2.1 11 0 rfl rfl hi hd (fun H1 locs1 hP hD hS => kk H1 locs1 ⟨hP, hD, hS, w.2.2.2⟩)
theorem rcC_12 (hK : va_K D vwCl (tyC cs) s) (w : px_H D (wC cs ad) A H0 M H locs) : ∃ cell : Cell, H[ad 12]? = some cell ∧ cell.vm.isStatics = false ∧ s.vm.findClass RX2 = some cell.cls := va_recv hK w.1 (ci := 2) (q0 := 12) rfl rfl
theorem gtC_12_0 (X : px_X D (tyC cs) p s m args c cc RX2) (w : px_H D (wC cs ad) A H0 M H locs) (hd : decode cc pc = .ok (.getfield 16, 3)) (kk : W p l e R s m args below meth c H locs cells slots Q (F0 m (pc + 3) ls (.int (M 12 0) :: rest))) : W p l e R s m args below meth c H locs cells slots Q (F0 m pc ls (.ref (ad 12) :: rest)) := va_get (D := D) (ci := 2) (C := RX2) (T := TX2) (N := 6) X.1 X.2.1 X.2.2.1 wu_X2 X.2.2.2.1 X.2.2.2.2 w.1 12 rfl rfl 0 (by decide) (X.2.2.1 _ wf_X2_0) (fun _ h => h) rfl hd kk
theorem gtC_12_1 (X : px_X D (tyC cs) p s m args c cc RX2) (w : px_H D (wC cs ad) A H0 M H locs) (hd : decode cc pc = .ok (.getfield 19, 3)) (kk : W p l e R s m args below meth c H locs cells slots Q (F0 m (pc + 3) ls (.ref (ad 13) :: rest))) : W p l e R s m args below meth c H locs cells slots Q (F0 m pc ls (.ref (ad 12) :: rest)) := va_get (D := D) (ci := 2) (C := RX2) (T := TX2) (N := 6) X.1 X.2.1 X.2.2.1 wu_X2 X.2.2.2.1 X.2.2.2.2 w.1 12 rfl rfl 1 (by decide) (X.2.2.1 _ wf_X2_1) (fun _ h => h) rfl hd kk
theorem gtC_12_2 (X : px_X D (tyC cs) p s m args c cc RX2) (w : px_H D (wC cs ad) A H0 M H locs) (hd : decode cc pc = .ok (.getfield 23, 3)) (kk : W p l e R s m args below meth c H locs cells slots Q (F0 m (pc + 3) ls (.ref (ad 14) :: rest))) : W p l e R s m args below meth c H locs cells slots Q (F0 m pc ls (.ref (ad 12) :: rest)) := va_get (D := D) (ci := 2) (C := RX2) (T := TX2) (N := 6) X.1 X.2.1 X.2.2.1 wu_X2 X.2.2.2.1 X.2.2.2.2 w.1 12 rfl rfl 2 (by decide) (X.2.2.1 _ wf_X2_2) (fun _ h => h) rfl hd kk
theorem gtC_12_3 (X : px_X D (tyC cs) p s m args c cc RX2) (w : px_H D (wC cs ad) A H0 M H locs) (hd : decode cc pc = .ok (.getfield 26, 3)) (kk : W p l e R s m args below meth c H locs cells slots Q (F0 m (pc + 3) ls (.ref (ad 15) :: rest))) : W p l e R s m args below meth c H locs cells slots Q (F0 m pc ls (.ref (ad 12) :: rest)) := va_get (D := D) (ci := 2) (C := RX2) (T := TX2) (N := 6) X.1 X.2.1 X.2.2.1 wu_X2 X.2.2.2.1 X.2.2.2.2 w.1 12 rfl rfl 3 (by decide) (X.2.2.1 _ wf_X2_3) (fun _ h => h) rfl hd kk
theorem gtC_12_4 (X : px_X D (tyC cs) p s m args c cc RX2) (w : px_H D (wC cs ad) A H0 M H locs) (hd : decode cc pc = .ok (.getfield 7, 3)) (kk : W p l e R s m args below meth c H locs cells slots Q (F0 m (pc + 3) ls (.int (M 12 4) :: rest))) : W p l e R s m args below meth c H locs cells slots Q (F0 m pc ls (.ref (ad 12) :: rest)) := va_get (D := D) (ci := 2) (C := RX2) (T := TX2) (N := 6) X.1 X.2.1 X.2.2.1 wu_X2 X.2.2.2.1 X.2.2.2.2 w.1 12 rfl rfl 4 (by decide) (X.2.2.1 _ wf_X2_4) (fun _ h => h) rfl hd kk
theorem ptC_12_4 (X : px_X D (tyC cs) p s m args c cc RX2) (w : px_H D (wC cs ad) A H0 M H locs) (hd : decode cc pc = .ok (.putfield 7, 3)) (kk : ∀ (H : Heap) (locs : List Loc), px_H D (wC cs ad) A H0 (px_up M 12 4 x) H locs → W p l e R s m args below meth c H locs cells slots Q (F0 m (pc + 3) ls rest)) : W p l e R s m args below meth c H locs cells slots Q (F0 m pc ls (.int x :: .ref (ad 12) :: rest)) := va_put (D := D) (ci := 2) (v := .int x) (ty := .int) (C := RX2) (T := TX2) (N := 6) X.1 X.2.1 X.2.2.1 wu_X2 tyX2 tyX2_ok nmX2 X.2.2.2.1 X.2.2.2.2 w.1 w.2.1 w.2.2.1 12 rfl rfl 4 (by decide) (X.2.2.1 _ wf_X2_4) (fun _ h => h) rfl (by decide +kernel) rfl rfl (Nat.le_of_ble_eq_true rfl) hd (fun H1 locs1 hP hD hS => kk H1 locs1 ⟨hP, hD, hS, w.2.2.2⟩)
theorem gtC_12_5 (X : px_X D (tyC cs) p s m args c cc RX2) (w : px_H D (wC cs ad) A H0 M H locs) (hd : decode cc pc = .ok (.getfield 13, 3)) (kk : W p l e R s m args below meth c H locs cells slots Q (F0 m (pc + 3) ls (.int (M 12 5) :: rest))) : W p l e R s m args below meth c H locs cells slots Q (F0 m pc ls (.ref (ad 12) :: rest)) := va_get (D := D) (ci := 2) (C := RX2) (T := TX2) (N := 6) X.1 X.2.1 X.2.2.1 wu_X2 X.2.2.2.1 X.2.2.2.2 w.1 12 rfl rfl 5 (by decide) (X.2.2.1 _ wf_X2_5) (fun _ h => h) rfl hd kk
theorem ptC_12_5 (X : px_X D (tyC cs) p s m args c cc RX2) (w : px_H D (wC cs ad) A H0 M H locs) (hd : decode cc pc = .ok (.putfield 13, 3)) (kk : ∀ (H : Heap) (locs : List Loc), px_H D (wC cs ad) A H0 (px_up M 12 5 x) H locs → W p l e R s m args below meth c H locs cells slots Q (F0 m (pc + 3) ls rest)) : W p l e R s m args below meth c H locs cells slots Q (F0 m pc ls (.int x :: .ref (ad 12) :: rest)) := va_put (D := D) (ci := 2) (v := .int x) (ty := .int) (C := RX2) (T := TX2) (N := 6) X.1 X.2.1 X.2.2.1 wu_X2 tyX2 tyX2_ok nmX2 X.2.2.2.1 X.2.2.2.2 w.1 w.2.1 w.2.2.1 12 rfl rfl 5 (by decide) (X.2.2.1 _ wf_X2_5) (fun _ h => h) rfl (by decide +kernel) rfl rfl (Nat.le_of_ble_eq_true rfl) hd (fun H1 locs1 hP hD hS => kk H1 locs1 ⟨hP, hD, hS, w.2.2.2⟩)
theorem ilC_13 {own : String} (X : px_X D (tyC cs) p s m args c cc own) (w : px_H D (wC cs ad) A H0 M H locs) (hi : vp_in i 1051) (hd : decode cc pc = .ok (.iaload, 1)) (kk : W p l e R s m args below meth c H locs cells slots Q (F0 m (pc + 1) ls (.int (M 13 i.toNatClampNeg) :: rest))) : W p l e R s m args below meth c H locs cells slots Q (F0 m pc ls (.int i :: .ref (ad 13) :: rest)) := va_iald X.1 X.2.1 X.2.2.2.2 w.1 13 0 rfl rfl hi hd kk
theorem isC_13 {own : String} (X : px_X D (tyC cs) p s m args c cc own) (w : px_H D (wC cs ad) A H0 M H locs) (hi : vp_in i 1051) (hd : decode cc pc = .ok (.iastore, 1)) (kk : ∀ (H : Heap) (locs : List Loc), px_H D (wC cs ad) A H0 (px_up M 13 i.toNatClampNeg x) H locs → W p l e R s m args below meth c H locs cells slots Q (F0 m (pc + 1) ls rest)) : W p l e R s m args below meth c H locs cells slots Q (F0 m pc ls (.int x :: .int i :: .ref (ad 13) :: rest)) := va_iast X.1 X.2.1 X.2.2.2.2 w.1 w.2.1 w.2.2.1 13 0 rfl rfl hi hd (fun H1 locs1 hP hD hS => kk H1 locs1 ⟨hP, hD, hS, w.2.2.2⟩)
theorem ilC_14 {own : String} (X : px_X D (tyC cs) p s m args c cc own) (w : px_H D (wC cs ad) A H0 M H locs) (hi : vp_in i 1051) (hd : decode cc pc = .ok (.iaload, 1)) (kk : W p l e R s m args below meth c H locs cells slots Q (F0 m (pc + 1) ls (.int (M 14 i.toNatClampNeg) :: rest))) : W p l e R s m args below meth c H locs cells slots Q (F0 m pc ls (.int i :: .ref (ad 14) :: rest)) := va_iald X.1 X.2.1 X.2.2.2.2 w.1 14 0 rfl rfl hi hd kk
theorem isC_14 {own : String} (X : px_X D (tyC cs) p s m args c cc own) (w : px_H D (wC cs ad) A H0 M H locs) (hi : vp_in i 1051) (hd : decode cc pc = .ok (.iastore, 1)) (kk : ∀ (H : Heap) (locs : List Loc), px_H D (wC cs ad) A H0 (px_up M 14 i.toNatClampNeg x) H locs → W p l e R s m args below meth c H locs cells slots Q (F0 m (pc + 1) ls rest)) : W p l e R s m args below meth c H locs cells slots Q (F0 m pc ls (.int x :: .int i :: .ref (ad 14) :: rest)) := va_iast X.1 X.2.1 X.2.2.2.2 w.1 w.2.1 w.2.2.1 14 0 rfl rfl hi hd (fun H1 locs1 hP hD hS => kk H1 locs1 ⟨hP, hD, hS, w.2.2.2⟩)
theorem ilC_15 {own : String} (X : px_X D (tyC cs) p s m args c cc own) (w : px_H D (wC cs ad) A H0 M H locs) (hi : vp_in i 1051) (hd : decode cc pc = .ok (.iaload, 1)) (kk : W p l e R s m args below meth c H locs cells slots Q (F0 m (pc + 1) ls (.int (M 15 i.toNatClampNeg) :: rest))) : W p l e R s m args below meth c H locs cells slots Q (F0 m pc ls (.int i :: .ref (ad 15) :: rest)) := va_iald X.1 X.2.1 X.2.2.2.2 w.1 15 0 rfl rfl hi hd kk
theorem isC_15 {own : String} (X : px_X D (tyC cs) p s m args c cc own) (w : px_H D (wC cs ad) A H0 M H locs) (hi : vp_in i 1051) (hd : decode cc pc = .ok (.iastore, 1)) (kk : ∀ (H : Heap) (locs : List Loc), px_H D (wC cs ad) A H0 (px_up M 15 i.toNatClampNeg x) H locs → W p l e R s m args below meth c H locs cells slots Q (F0 m (pc + 1) ls rest)) : W p l e R s m args below meth c H locs cells slots Q (F0 m pc ls (.int x :: .int i :: .ref (ad 15) :: rest)) := va_iast X.1 X.2.1 X.2.2.2.2 w.1 w.2.1 w.2.2.1 15 0 rfl rfl hi hd (fun H1 locs1 hP hD hS => kk H1 locs1 ⟨hP, hD, hS, w.2.2.2⟩)
theorem rcC_16 (hK : va_K D vwCl (tyC cs) s) (w : px_H D (wC cs ad) A H0 M H locs) : ∃ cell : Cell, H[ad 16]? = some cell ∧ cell.vm.isStatics = false ∧ s.vm.findClass RX2 = some cell.cls := va_recv hK w.1 (ci := 2) (q0 := 16) rfl rfl
theorem gtC_16_0 (X : px_X D (tyC cs) p s m args c cc RX2) (w : px_H D (wC cs ad) A H0 M H locs) (hd : decode cc pc = .ok (.getfield 16, 3)) (kk : W p l e R s m args below meth c H locs cells slots Q (F0 m (pc + 3) ls (.int (M 16 0) :: rest))) : W p l e R s m args below meth c H locs cells slots Q (F0 m pc ls (.ref (ad 16) :: rest)) := va_get (D := D) (ci := 2) (C := RX2) (T := TX2) (N := 6) X.1 X.2.1 X.2.2.1 wu_X2 X.2.2.2.1 X.2.2.2.2 w.1 16 rfl rfl 0 (by decide) (X.2.2.1 _ wf_X2_0) (fun _ h => h) rfl hd kk
theorem gtC_16_1 (X : px_X D (tyC cs) p s m args c cc RX2) (w : px_H D (wC cs ad) A H0 M H locs) (hd : decode cc pc = .ok (.getfield 19, 3)) (kk : W p l e R s m args below meth c H locs cells slots Q (F0 m (pc + 3) ls (.ref (ad 17) :: rest))) : W p l e R s m args below meth c H locs cells slots Q (F0 m pc ls (.ref (ad 16) :: rest)) := va_get (D := D) (ci := 2) (C := RX2) (T := TX2) (N := 6) X.1 X.2.1 X.2.2.1 wu_X2 X.2.2.2.1 X.2.2.2.2 w.1 16 rfl rfl 1 (by decide) (X.2.2.1 _ wf_X2_1) (fun _ h => h) rfl hd kk
theorem gtC_16_2 (X : px_X D (tyC cs) p s m args c cc RX2) (w : px_H D (wC cs ad) A H0 M H locs) (hd : decode cc pc = .ok (.getfield 23, 3)) (kk : W p l e R s m args below meth c H locs cells slots Q (F0 m (pc + 3) ls (.ref (ad 18) :: rest))) : W p l e R s m args below meth c H locs cells slots Q (F0 m pc ls (.ref (ad 16) :: rest)) := va_get (D := D) (ci := 2) (C := RX2) (T := TX2) (N := 6) X.1 X.2.1 X.2.2.1 wu_X2 X.2.2.2.1 X.2.2.2.2 w.1 16 rfl rfl 2 (by decide) (X.2.2.1 _ wf_X2_2) (fun _ h => h) rfl hd kk
theorem gtC_16_3 (X : px_X D (tyC cs) p s m args c cc RX2) (w : px_H D (wC cs ad) A H0 M H locs) (hd : decode cc pc = .ok (.getfield 26, 3)) (kk : W p l e R s m args below meth c H locs cells slots Q (F0 m (pc + 3) ls (.ref (ad 19) :: rest))) : W p l e R s m args below meth c H locs cells slots Q (F0 m pc ls (.ref (ad 16) :: rest)) := va_get (D := D) (ci := 2) (C := RX2) (T := TX2) (N := 6) X.1 X.2.1 X.2.2.1 wu_X2 X.2.2.2.1 X.2.2.2.2 w.1 16 rfl rfl 3 (by decide) (X.2.2.1 _ wf_X2_3) (fun _ h => h) rfl hd kk
theorem gtC_16_4 (X : px_X D (tyC cs) p s m args c cc RX2) (w : px_H D (wC cs ad) A H0 M H locs) (hd : decode cc pc = .ok (.getfield 7, 3)) (kk : W p l e R s m args below meth c H locs cells slots Q (F0 m (pc + 3) ls (.int (M 16 4) :: rest))) : W p l e R s m args below meth c H locs cells slots Q (F0 m pc ls (.ref (ad 16) :: rest)) := va_get (D := D) (ci := 2) (C := RX2) (T := TX2) (N := 6) X.1 X.2.1 X.2.2.1 wu_X2 X.2.2.2.1 X.2.2.2.2 w.1 16 rfl rfl 4 (by decide) (X.2.2.1 _ wf_X2_4) (fun _ h => h) rfl hd kk
theorem ptC_16_4 (X : px_X D (tyC cs) p s m args c cc RX2) (w : px_H D (wC cs ad) A H0 M H locs) (hd : decode cc pc = .ok (.putfield 7, 3)) (kk : ∀ (H : Heap) (locs : List Loc), px_H D (wC cs ad) A H0 (px_up M 16 4 x) H locs → W p l e R s m args below meth c H locs cells slots Q (F0 m (pc + 3) ls rest)) : W p l e R s m args below meth c H locs cells slots Q (F0 m pc ls (.int x :: .ref (ad 16) :: rest)) := va_put (D := D) (ci := 2) (v := .int x) (ty := .int) (C := RX2) (T := TX2) (N := 6) X.1 X.2.1 X.2.2.1 wu_X2 tyX2 tyX2_ok nmX2 X.2.2.2.1 X.2.2.2.2 w.1 w.2.1 w.2.2.1 16 rfl rfl 4 (by decide) (X.2.2.1 _ wf_X2_4) (fun _ h => h) rfl (by decide +kernel) rfl rfl (Nat.le_of_ble_eq_true rfl) hd (fun H1 locs1 hP hD hS => kk H1 locs1 ⟨hP, hD, hS, w.2.2.2⟩)
theorem gtC_16_5 (X : px_X D (tyC cs) p s m args c cc RX2) (w : px_H D (wC cs ad) A H0 M H locs) (hd : decode cc pc = .ok (.getfield 13, 3)) (kk : W p l e R s m args below meth c H locs cells slots Q (F0 m (pc + 3) ls (.int (M 16 5) :: rest))) : W p l e R s m args below meth c H locs cells slots Q (F0 m pc ls (.ref (ad 16) :: rest)) := va_get (D := D) (ci := 2) (C := RX2) (T := TX2) (N := 6) X.1 X.2.1 X.2.2.1 wu_X2 X.2.2.2.1 X.2.2.2.2 w.1 16 rfl rfl 5 (by decide) (X.2.2.1 _ wf_X2_5) (fun _ h => h) rfl hd kk
theorem ptC_16_5 (X : px_X D (tyC cs) p s m args c cc RX2) (w : px_H D (wC cs ad) A H0 M H locs) (hd : decode cc pc = .ok (.putfield 13, 3)) (kk : ∀ (H : Heap) (locs : List Loc), px_H D (wC cs ad) A H0 (px_up M 16 5 x) H locs → W p l e R s m args below meth c H locs cells slots Q (F0 m (pc + 3) ls rest)) : W p l e R s m args below meth c H locs cells slots Q (F0 m pc ls (.int x :: .ref (ad 16) :: rest)) := va_put (D := D) (ci := 2) (v := .int x) (ty := .int) (C := RX2) (T := TX2) (N := 6) X.1 X.2.1 X.2.2.1 wu_X2 tyX2 tyX2_ok nmX2 X.2.2.2.1 X.2.2.2.2 w.1 w.2.1 w.2.2.1 16 rfl rfl 5 (by decide) (X.2.2.1 _ wf_X2_5) (fun _ h => h) rfl (by decide +kernel) rfl rfl (Nat.le_of_ble_eq_true rfl) hd (fun H1 locs1 hP hD hS => kk H1 locs1 ⟨hP, hD, hS, w.2.2.2⟩)
theorem ilC_17 {own : String} (X : px_X D (tyC cs) p s m args c cc own) (w : px_H D (wC cs ad) A H0 M H locs) (hi : vp_in i 40) (hd : decode cc pc = .ok (.iaload, 1)) (kk : W p l e R s m args below meth c H locs cells slots Q (F0 m (pc + 1) ls (.int (M 17 i.toNatClampNeg) :: rest))) : W p l e R s m args below meth c H locs cells slots Q (F0 m pc ls (.int i :: .ref (ad 17) :: rest)) := va_iald X.1 X.2.1 X.2.2.2.2 w.1 17 0 rfl rfl hi hd kk
theorem isC_17 {own : String} (X : px_X D (tyC cs) p s m args c cc own) (w : px_H D (wC cs ad) A H0 M H locs) (hi : vp_in i 40) (hd : decode cc pc = .ok (.iastore, 1)) (kk : ∀ (H : Heap) (locs : List Loc), px_H D (wC cs ad) A H0 (px_up M 17 i.toNatClampNeg x) H locs → W p l e R s m args below meth c H locs cells slots Q (F0 m (pc + 1) ls rest)) : W p l e R s m args below meth c H locs cells slots Q (F0 m pc ls (.int x :: .int i :: .ref (ad 17) :: rest)) := va_iast X.1 X.2.1 X.2.2.2.2 w.1 w.2.1 w.2.2.1 17 0 rfl rfl hi hd (fun H1 locs1 hP hD hS => kk H1 locs1 ⟨hP, hD, hS, w.2.2.2⟩)
theorem ilC_18 {own : String} (X : px_X D (tyC cs) p s m args c cc own) (w : px_H D (wC cs ad) A H0 M H locs) (hi : vp_in i 40) (hd : decode cc pc = .ok (.iaload, 1)) (kk : W p l e R s m args below meth c H locs cells slots Q (F0 m (pc + 1) ls (.int (M 18 i.toNatClampNeg) :: rest))) : W p l e R s m args below meth c H locs cells slots Q (F0 m pc ls (.int i :: .ref (ad 18) :: rest)) := va_iald X.1 X.2.1 X.2.2.2.2 w.1 18 0 rfl rfl hi hd kk
theorem isC_18 {own : String} (X : px_X D (tyC cs) p s m args c cc own) (w : px_H D (wC cs ad) A H0 M H locs) (hi : vp_in i 40) (hd : decode cc pc = .ok (.iastore, 1)) (kk : ∀ (H : Heap) (locs : List Loc), px_H D (wC cs ad) A H0 (px_up M 18 i.toNatClampNeg x) H locs → W p l e R s m args below meth c H locs cells slots Q (F0 m (pc + 1) ls rest)) : W p l e R s m args below meth c H locs cells slots Q (F0 m pc ls (.int x :: .int i :: .ref (ad 18) :: rest)) := va_iast X.1 X.2.1 X.2.2.2.2 w.1 w.2.1 w.2.2.1 18 0 rfl rfl hi hd (fun H1 locs1 hP hD hS => kk H1 locs1 ⟨hP, hD, hS, w.2.2.2⟩)
theorem ilC_19 {own : String} (X : px_X D (tyC cs) p s m args c cc own) (w : px_H D (wC cs ad) A H0 M H locs) (hi : vp_in i 40) (hd : decode cc pc = .ok (.iaload, 1)) (kk : W p l e R s m args below meth c H locs cells slots Q (F0 m (pc + 1) ls (.int (M 19 i.toNatClampNeg) :: rest))) : W p l e R s m args below meth c H locs cells slots Q (F0 m pc ls (.int i :: .ref (ad 19) :: rest)) := va_iald X.1 X.2.1 X.2.2.2.2 w.1 19 0 rfl rfl hi hd kk
theorem isC_19 {own : String} (X : px_X D (tyC cs) p s m args c cc own) (w : px_H D (wC cs ad) A H0 M H locs) (hi : vp_in i 40) (hd : decode cc pc = .ok (.iastore, 1)) (kk : ∀ (H : Heap) (locs : List Loc), px_H D (wC cs ad) A H0 (px_up M 19 i.toNatClampNeg x) H locs → W p l e R s m args below meth c H locs cells slots Q (F0 m (pc + 1) ls rest)) : W p l e R s m args below meth c H locs cells slots Q (F0 m pc ls (.int x :: .int i :: .ref (ad 19) :: rest)) := va_iast X.1 X.2.1 X.2.2.2.2 w.1 w.2.1 w.2.2.1 19 0 rfl rfl hi hd (fun H1 locs1 hP hD hS => kk H1 locs1 ⟨hP, hD, hS, w.2.2.2⟩)
theorem rcC_20 (hK : va_K D vwCl (tyC cs) s) (w : px_H D (wC cs ad) A H0 M H locs) : ∃ cell : Cell, H[ad 20]? = some cell ∧ cell.vm.isStatics = false ∧ s.vm.findClass RX2 = some cell.cls := va_recv hK w.1 (ci := 2) (q0 := 20) rfl rfl
theorem gtC_20_0 (X : px_X D (tyC cs) p s m args c cc RX2) (w : px_H D (wC cs ad) A H0 M H locs) (hd : decode cc pc = .ok (.getfield 16, 3)) (kk : W p l e R s m args below meth c H locs cells slots Q (F0 m (pc + 3) ls (.int (M 20 0) :: rest))) : W p l e R s m args below meth c H locs cells slots Q (F0 m pc ls (.ref (ad 20) :: rest)) := va_get (D := D) (ci := 2) (C := RX2) (T := TX2) (N := 6) X.1 X.2.1 X.2.2.1 wu_X2 X.2.2.2.1 X.2.2.2.2 w.1 20 rfl rfl 0 (by decide) (X.2.2.1 _ wf_X2_0) (fun _ h => h) rfl hd kk
theorem gtC_20_1 (X : px_X D (tyC cs) p s m args c cc RX2) (w : px_H D (wC cs ad) A H0 M H locs) (hd : decode cc pc = .ok (.getfield 19, 3)) (kk : W p l e R s m args below meth c H locs cells slots Q (F0 m (pc + 3) ls (.ref (ad 21) :: rest))) : W p l e R s m args below meth c H locs cells slots Q (F0 m pc ls (.ref (ad 20) :: rest)) := va_get (D := D) (ci := 2) (C := RX2) (T := TX2) (N := 6) X.1 X.2.1 X.2.2.1 wu_X2 X.2.2.2.1 X.2.2.2.2 w.1 20 rfl rfl 1 (by decide) (X.2.2.1 _ wf_X2_1) (fun _ h => h) rfl hd kk
theorem gtC_20_2 (X : px_X D (tyC cs) p s m args c cc RX2) (w : px_H D (wC cs ad) A H0 M H locs) (hd : decode cc pc = .ok (.getfield 23, 3)) (kk : W p l e R s m args below meth c H locs cells slots Q (F0 m (pc + 3) ls (.ref (ad 22) :: rest))) : W p l e R s m args below meth c H locs cells slots Q (F0 m pc ls (.ref (ad 20) :: rest)) := va_get (D := D) (ci := 2) (C := RX2) (T := TX2) (N := 6) X.1 X.2.1 X.2.2.1 wu_X2 X.2.2.2.1 X.2.2.2.2 w.1 20 rfl rfl 2 (by decide) (X.2.2.1 _ wf_X2_2) (fun _ h => h) rfl hd kk
theorem gtC_20_3 (X : px_X D (tyC cs) p s m args c cc RX2) (w : px_H D (wC cs ad) A H0 M H locs) (hd : decode cc pc = .ok (.getfield 26, 3)) (kk : W p l e R s m args below meth c H locs cells slots Q (F0 m (pc + 3) ls (.ref (ad 23) :: rest))) : W p l e R s m args below meth c H locs cells slots Q (F0 m pc ls (.ref (ad 20) :: rest)) := va_get (D := D) (ci := 2) (C := RX2) (T := TX2) (N := 6) X.1 X.2.1 X.2.2.1 wu_X2 X.2.2.2.1 X.2.2.2.2 w.1 20 rfl rfl 3 (by decide) (X.2.2.1 _ wf_X2_3) (fun _ h => h) rfl hd kk
theorem gtC_20_4 (X : px_X D (tyC cs) p s m args c cc RX2) (w : px_H D (wC cs ad) A H0 M H locs) (hd : decode cc pc = .ok (.getfield 7, 3)) (kk : W p l e R s m args below meth c H locs cells slots Q (F0 m (pc + 3) ls (.int (M 20 4) :: rest))) : W p l e R s m args below meth c H locs cells slots Q (F0 m pc ls (.ref (ad 20) :: rest)) := va_get (D := D) (ci := 2) (C := RX2) (T := TX2) (N := 6) X.1 X.2.1 X.2.2.1 wu_X2 X.2.2.2.1 X.2.2.2.2 w.1 20 rfl rfl 4 (by decide) (X.2.2.1 _ wf_X2_4) (fun _ h => h) rfl hd kk
theorem ptC_20_4 (X : px_X D (tyC cs) p s m args c cc RX2) (w : px_H D (wC cs ad) A H0 M H locs) (hd : decode cc pc = .ok (.putfield 7, 3)) (kk : ∀ (H : Heap) (locs : List Loc), px_H D (wC cs ad) A H0 (px_up M 20 4 x) H locs → W p l e R s m args below meth c H locs cells slots Q (F0 m (pc + 3) ls rest)) : W p l e R s m args below meth c H locs cells slots Q (F0 m pc ls (.int x :: .ref (ad 20) :: rest)) := va_put (D := D) (ci := 2) (v := .int x) (ty := .int) (C := RX2) (T := TX2) (N := 6) X.1 X.2.1 X.2.2.1 wu_X2 tyX2 tyX2_ok nmX2 X.2.2.2.1 X.2.2.2.2 w.1 w.2.1 w.2.2.1 20 rfl rfl 4 (by decide) (X.2.2.1 _ wf_X2_4) (fun _ h => h) rfl (by decide +kernel) rfl rfl (Nat.le_of_ble_eq_true rfl) hd (fun H1 locs1 hP hD hS => kk H1 locs1 ⟨hP, hD, hS, w.2.2.2⟩)
theorem gtC_20_5 (X : px_X D (tyC cs) p s m args c cc RX2) (w : px_H D (wC cs ad) A H0 M H locs) (hd : decode cc pc = .ok (.getfield 13, 3)) (kk : W p l e R s m args below meth c H locs cells slots Q (F0 m (pc + 3) ls (.int (M 20 5) :: rest))) : W p l e R s m args below meth c H locs cells slots Q (F0 m pc ls (.ref (ad 20) :: rest)) := va_get (D := D) (ci := 2) (C := RX2) (T := TX2) (N := 6) X.1 X.2.1 X.2.2.1 wu_X2 X.2.2.2.1 X.2.2.2.2 w.1 20 rfl rfl 5 (by decide) (X.2.2.1 _ wf_X2_5) (fun _ h => h) rfl hd kk
theorem ptC_20_5 (X : px_X D (tyC cs) p s m args c cc RX2) (w : px_H D (wC cs ad) A H0 M H locs) (hd : decode cc pc = .ok (.putfield 13, 3)) (kk : ∀ (H : Heap) (locs : List Loc), px_H D (wC cs ad) A H0 (px_up M 20 5 x) H locs → W p l e R s m args below meth c H locs cells slots Q (F0 m (pc + 3) ls rest)) : W p l e R s m args below meth c H locs cells slots Q (F0 m pc ls (.int x :: .ref (ad 20) :: rest)) := va_put (D := D) (ci := 2) (v := .int x) (ty := .int) (C := RX2) (T := TX2) (N := 6) X.1 X.2.1 X.2.2.1 wu_X2 tyX2 tyX2_ok nmX2 X.2.2.2.1 X.2.2.2.2 w.1 w.2.1 w.2.2.1 20 rfl rfl 5 (by decide) (X.2.2.1 _ wf_X2_5) (fun _ h => h) rfl (by decide +kernel) rfl rfl (Nat.le_of_ble_eq_true rfl) hd (fun H1 locs1 hP hD hS => kk H1 locs1 ⟨hP, hD, hS, w.2.2.2⟩)
theorem ilC_21 {own : String} (X : px_X D (tyC cs) p s m args c cc own) (w : px_H D (wC cs ad) A H0 M H locs) (hi : vp_in i 180) (hd : decode cc pc = .ok (.iaload, 1)) (kk : W p l e R s m args below meth c H locs cells slots Q (F0 m (pc + 1) ls (.int (M 21 i.toNatClampNeg) :: rest))) : W p l e R s m args below meth c H locs cells slots Q (F0 m pc ls (.int i :: .ref (ad 21) :: rest)) := va_iald X.1 X.2.1 X.2.2.2.2 w.1 21 0 rfl rfl hi hd kk
theorem isC_21 {own : String} (X : px_X D (tyC cs) p s m args c cc own) (w : px_H D (wC cs ad) A H0 M H locs) (hi : vp_in i 180) (hd : decode cc pc = .ok (.iastore, 1)) (kk : ∀ (H : Heap) (locs : List Loc), px_H D (wC cs ad) A H0 (px_up M 21 i.toNatClampNeg x) H locs → W p l e R s m args below meth c H locs cells slots Q (F0 m (pc + 1) ls rest)) : W p l e R s m args below meth c H locs cells slots Q (F0 m pc ls (.int x :: .int i :: .ref (ad 21) :: rest)) := va_iast X.1 X.2.1 X.2.2.2.2 w.1 w.2.1 w.2.2.1 21 0 rfl rfl hi hd (fun H1 locs1 hP hD hS => kk H1 locs1 ⟨hP, hD, hS, w.2.2.2⟩)
theorem ilC_22 {own : String} (X : px_X D (tyC cs) p s m args c cc own) (w : px_H D (wC cs ad) A H0 M H locs) (hi : vp_in i 180) (hd : decode cc pc = .ok (.iaload, 1)) (kk : W p l e R s m args below meth c H locs cells slots Q (F0 m (pc + 1) ls (.int (M 22 i.toNatClampNeg) :: rest))) : W p l e R s m args below meth c H locs cells slots Q (F0 m pc ls (.int i :: .ref (ad 22) :: rest)) := va_iald X.1 X.2.1 X.2.2.2.2 w.1 22 0 rfl rfl hi hd kk
theorem isC_22 {own : String} (X : px_X D (tyC cs) p s m args c cc own) (w : px_H D (wC cs ad) A H0 M H locs) (hi : vp_in i 180) (hd : decode cc pc = .ok (.iastore, 1)) (kk : ∀ (H : Heap) (locs : List Loc), px_H D (wC cs ad) A H0 (px_up M 22 i.toNatClampNeg x) H locs → W p l e R s m args below meth c H locs cells slots Q (F0 m (pc + 1) ls rest)) : W p l e R s m args below meth c H locs cells slots Q (F0 m pc ls (.int x :: .int i :: .ref (ad 22) :: rest)) := va_iast X.1 X.2.1 X.2.2.2.2 w.1 w.2.1 w.2.2.1 22 0 rfl rfl hi hd (fun H1 locs1 hP hD hS => kk H1 locs1 ⟨hP, hD, hS, w.2.2.2⟩)
theorem ilC_23 {own : String} (X : px_X D (tyC cs) p s m args c cc own) (w : px_H D (wC cs ad) A H0 M H locs) (hi : vp_in i 180) (hd : decode cc pc = .ok (.iaload, 1)) (kk : W p l e R s m args below meth c H locs cells slots Q (F0 m (pc + 1) ls (.int (M 23 i.toNatClampNeg) :: rest))) : W p l e R s m args below meth c H locs cells slots Q (F0 m pc ls (.int i :: .ref (ad 23) :: rest)) := va_iald X.1 X.2.1 X.2.2.2.2 w.1 23 0 rfl rfl hi hd kk
theorem isC_23 {own : String} (X : px_X D (tyC cs) p s m args c cc own) (w : px_H D (wC cs ad) A H0 M H locs) (hi : vp_in i 180) (hd : decode cc pc = .ok (.iastore, 1)) (kk : ∀ (H : Heap) (locs : List Loc), px_H D (wC cs ad) A H0 (px_up M 23 i.toNatClampNeg x) H locs → W p l e R s m args below meth c H locs cells slots Q (F0 m (pc + 1) ls rest)) : W p l e R s m args below meth c H locs cells slots Q (F0 m pc ls (.int x :: .int i :: .ref (ad 23) :: rest)) := va_iast X.1 X.2.1 X.2.2.2.2 w.1 w.2.1 w.2.2.1 23 0 rfl rfl hi hd (fun H1 locs1 hP hD hS => kk H1 locs1 ⟨hP, hD, hS, w.2.2.2⟩)
theorem rcC_24 (hK : va_K D vwCl (tyC cs) s) (w : px_H D (wC cs ad) A H0 M H locs) : ∃ cell : Cell, H[ad 24]? = some cell ∧ cell.vm.isStatics = false ∧ s.vm.findClass RX2 = some cell.cls := va_recv hK w.1 (ci := 2) (q0 := 24) rfl rfl
theorem gtC_24_0 (X : px_X D (tyC cs) p s m args c cc RX2) (w : px_H D (wC cs ad) A H0 M H locs) (hd : decode cc pc = .ok (.getfield 16, 3)) (kk : W p l e R s m args below meth c H locs cells slots Q (F0 m (pc + 3) ls (.int (M 24 0) :: rest))) : W p l e R s m args below meth c H locs cells slots Q (F0 m pc ls (.ref (ad 24) :: rest)) := va_get (D := D) (ci := 2) (C := RX2) (T := TX2) (N := 6) X.1 X.2.1 X.2.2.1 wu_X2 X.2.2.2.1 X.2.2.2.2 w.1 24 rfl rfl 0 (by decide) (X.2.2.1 _ wf_X2_0) (fun _ h => h) rfl hd kk
theorem gtC_24_1 (X : px_X D (tyC cs) p s m args c cc RX2) (w : px_H D (wC cs ad) A H0 M H locs) (hd : decode cc pc = .ok (.getfield 19, 3)) (kk : W p l e R s m args below meth c H locs cells slots Q (F0 m (pc + 3) ls (.ref (ad 25) :: rest))) : W p l e R s m args below meth c H locs cells slots Q (F0 m pc ls (.ref (ad 24) :: rest)) := va_get (D := D) (ci := 2) (C := RX2) (T := TX2) (N := 6) X.1 X.2.1 X.2.2.1 wu_X2 X.2.2.2.1 X.2.2.2.2 w.1 24 rfl rfl 1 (by decide) (X.2.2.1 _ wf_X2_1) (fun _ h => h) rfl hd kk
theorem gtC_24_2 (X : px_X D (tyC cs) p s m args c cc RX2) (w : px_H D (wC cs ad) A H0 M H locs) (hd : decode cc pc = .ok (.getfield 23, 3)) (kk : W p l e R s m args below meth c H locs cells slots Q (F0 m (pc + 3) ls (.ref (ad 26) :: rest))) : W p l e R s m args below meth c H locs cells slots Q (F0 m pc ls (.ref (ad 24) :: rest)) := va_get (D := D) (ci := 2) (C := RX2) (T := TX2) (N := 6) X.1 X.2.1 X.2.2.1 wu_X2 X.2.2.2.1 X.2.2.2.2 w.1 24 rfl rfl 2 (by decide) (X.2.2.1 _ wf_X2_2) (fun _ h => h) rfl hd kk
theorem gtC_24_3 (X : px_X D (tyC cs) p s m args c cc RX2) (w : px_H D (wC cs ad) A H0 M H locs) (hd : decode cc pc = .ok (.getfield 26, 3)) (kk : W p l e R s m args below meth c H locs cells slots Q (F0 m (pc + 3) ls (.ref (ad 27) :: rest))) : W p l e R s m args below meth c H locs cells slots Q (F0 m pc ls (.ref (ad 24) :: rest)) := va_get (D := D) (ci := 2) (C := RX2) (T := TX2) (N := 6) X.1 X.2.1 X.2.2.1 wu_X2 X.2.2.2.1 X.2.2.2.2 w.1 24 rfl rfl 3 (by decide) (X.2.2.1 _ wf_X2_3) (fun _ h => h) rfl hd kk
theorem gtC_24_4 (X : px_X D (tyC cs) p s m args c cc RX2) (w : px_H D (wC cs ad) A H0 M H locs) (hd : decode cc pc = .ok (.getfield 7, 3)) (kk : W p l e R s m args below meth c H locs cells slots Q (F0 m (pc + 3) ls (.int (M 24 4) :: rest))) : W p l e R s m args below meth c H locs cells slots Q (F0 m pc ls (.ref (ad 24) :: rest)) := va_get (D := D) (ci := 2) (C := RX2) (T := TX2) (N := 6) X.1 X.2.1 X.2.2.1 wu_X2 X.2.2.2.1 X.2.2.2.2 w.1 24 rfl rfl 4 (by decide) (X.2.2.1 _ wf_X2_4) (fun _ h => h) rfl hd kk
theorem ptC_24_4 (X : px_X D (tyC cs) p s m args c cc RX2) (w : px_H D (wC cs ad) A H0 M H locs) (hd : decode cc pc = .ok (.putfield 7, 3)) (kk : ∀ (H : Heap) (locs : List Loc), px_H D (wC cs ad) A H0 (px_up M 24 4 x) H locs → W p l e R s m args below meth c H locs cells slots Q (F0 m (pc + 3) ls rest)) : W p l e R s m args below meth c H locs cells slots Q (F0 m pc ls (.int x :: .ref (ad 24) :: rest)) := va_put (D := D) (ci := 2) (v := .int x) (ty := .int) (C := RX2) (T := TX2) (N := 6) X.1 X.2.1 X.2.2.1 wu_X2 tyX2 tyX2_ok nmX2 X.2.2.2.1 X.2.2.2.2 w.1 w.2.1 w.2.2.1 24 rfl rfl 4 (by decide) (X.2.2.1 _ wf_X2_4) (fun _ h => h) rfl (by decide +kernel) rfl rfl (Nat.le_of_ble_eq_true rfl) hd (fun H1 locs1 hP hD hS => kk H1 locs1 ⟨hP, hD, hS, w.2.2.2⟩)
theorem gtC_24_5 (X : px_X D (tyC cs) p s m args c cc RX2) (w : px_H D (wC cs ad) A H0 M H locs) (hd : decode cc pc = .ok (.getfield 13, 3)) (kk : W p l e R s m args below meth c H locs cells slots Q (F0 m (pc + 3) ls (.int (M 24 5) :: rest))) : W p l e R s m args below meth c H locs cells slots Q (F0 m pc ls (.ref (ad 24) :: rest)) := va_get (D := D) (ci := 2) (C := RX2) (T := TX2) (N := 6) X.1 X.2.1 X.2.2.1 wu_X2 X.2.2.2.1 X.2.2.2.2 w.1 24 rfl rfl 5 (by decide) (X.2.2.1 _ wf_X2_5) (fun _ h => h) rfl hd kk
theorem ptC_24_5 (X : px_X D (tyC cs) p s m args c cc RX2) (w : px_H D (wC cs ad) A H0 M H locs) (hd : decode cc pc = .ok (.putfield 13, 3)) (kk : ∀ (H : Heap) (locs : List Loc), px_H D (wC cs ad) A H0 (px_up M 24 5 x) H locs → W p l e R s m args below meth c H locs cells slots Q (F0 m (pc + 3) ls rest)) : W p l e R s m args below meth c H locs cells slots Q (F0 m pc ls (.int x :: .ref (ad 24) :: rest)) := va_put (D := D) (ci := 2) (v := .int x) (ty := .int) (C := RX2) (T := TX2) (N := 6) X.1 X.2.1 X.2.2.1 wu_X2 tyX2 tyX2_ok nmX2 X.2.2.2.1 X.2.2.2.2 w.1 w.2.1 w.2.2.1 24 rfl rfl 5 (by decide) (X.2.2.1 _ wf_X2_5) (fun _ h => h) rfl (by decide +kernel) rfl rfl (Nat.le_of_ble_eq_true rfl) hd (fun H1 locs1 hP hD hS => kk H1 locs1 ⟨hP, hD, hS, w.2.2.2⟩)
theorem ilC_25 {own : String} (X : px_X D (tyC cs) p s m args c cc own) (w : px_H D (wC cs ad) A H0 M H locs) (hi : vp_in i 8) (hd : decode cc pc = .ok (.iaload, 1)) (kk : W p l e R s m args below meth c H locs cells slots Q (F0 m (pc + 1) ls (.int (M 25 i.toNatClampNeg) :: rest))) : W p l e R s m args below meth c H locs cells slots Q (F0 m pc ls (.int i :: .ref (ad 25) :: rest)) := va_iald X.1 X.2.1 X.2.2.2.2 w.1 25 0 rfl rfl hi hd kk
theorem isC_25 {own : String} (X : px_X D (tyC cs) p s m args c cc own) (w : px_H D (wC cs ad) A H0 M H locs) (hi : vp_in i 8) (hd : decode cc pc = .ok (.iastore, 1)) (kk : ∀ (H : Heap) (locs : List Loc), px_H D (wC cs ad) A H0 (px_up M 25 i.toNatClampNeg x) H locs → W p l e R s m args below meth c H locs cells slots Q (F0 m (pc + 1) ls rest)) : W p l e R s m args below meth c H locs cells slots Q (F0 m pc ls (.int x :: .int i :: .ref (ad 25) :: rest)) := va_iast X.1 X.2.1 X.2.2.2.2 w.1 w.2.1 w.2.2.1 25 0 rfl rfl hi hd (fun H1 locs1 hP hD hS => kk H1 locs1 ⟨hP, hD, hS, w.2.2.2⟩)
theorem ilC_26 {own : String} (X : px_X D (tyC cs) p s m args c cc own) (w : px_H D (wC cs ad) A H0 M H locs) (hi : vp_in i 8) (hd : decode cc pc = .ok (.iaload, 1)) (kk : W p l e R s m args below meth c H locs cells slots Q (F0 m (pc + 1) ls (.int (M 26 i.toNatClampNeg) :: rest))) : W p l e R s m args below meth c H locs cells slots Q (F0 m pc ls (.int i :: .ref (ad 26) :: rest)) := va_iald X.1 X.2.1 X.2.2.2.2 w.1 26 0 rfl rfl hi hd kk
theorem isC_26 {own : String} (X : px_X D (tyC cs) p s m args c cc own) (w : px_H D (wC cs ad) A H0 M H locs) (hi : vp_in i 8) (hd : decode cc pc = .ok (.iastore, 1)) (kk : ∀ (H : Heap) (locs : List Loc), px_H D (wC cs ad) A H0 (px_up M 26 i.toNatClampNeg x) H locs → W p l e R s m args below meth c H locs cells slots Q (F0 m (pc + 1) ls rest)) : W p l e R s m args below meth c H locs cells slots Q (F0 m pc ls (.int x :: .int i :: .ref (ad 26) :: rest)) := va_iast X.1 X.2.1 X.2.2.2.2 w.1 w.2.1 w.2.2.1 26 0 rfl rfl hi hd (fun H1 locs1 hP hD hS => kk H1 locs1 ⟨hP, hD, hS, w.2.2.2⟩)
theorem ilC_27 {own : String} (X : px_X D (tyC cs) p s m args c cc own) (w : px_H D (wC cs ad) A H0 M H locs) (hi : vp_in i 8) (hd : decode cc pc = .ok (.iaload, 1)) (kk : W p l e R s m args below meth c H locs cells slots Q (F0 m (pc + 1) ls (.int (M 27 i.toNatClampNeg) :: rest))) : W p l e R s m args below meth c H locs cells slots Q (F0 m pc ls (.int i :: .ref (ad 27) :: rest)) := va_iald X.1 X.2.1 X.2.2.2.2 w.1 27 0 rfl rfl hi hd kk
theorem isC_27 {own : String} (X : px_X D (tyC cs) p s m args c cc own) (w : px_H D (wC cs ad) A H0 M H locs) (hi : vp_in i 8) (hd : decode cc pc = .ok (.iastore, 1)) (kk : ∀ (H : Heap) (locs : List Loc), px_H D (wC cs ad) A H0 (px_up M 27 i.toNatClampNeg x) H locs → W p l e R s m args below meth c H locs cells slots Q (F0 m (pc + 1) ls rest)) : W p l e R s m args below meth c H locs cells slots Q (F0 m pc ls (.int x :: .int i :: .ref (ad 27) :: rest)) := va_iast X.1 X.2.1 X.2.2.2.2 w.1 w.2.1 w.2.2.1 27 0 rfl rfl hi hd (fun H1 locs1 hP hD hS => kk H1 locs1 ⟨hP, hD, hS, w.2.2.2⟩)
theorem rcC_28 (hK : va_K D vwCl (tyC cs) s) (w : px_H D (wC cs ad) A H0 M H locs) : ∃ cell : Cell, H[ad 28]? = some cell ∧ cell.vm.isStatics = false ∧ s.vm.findClass RX1 = some cell.cls := va_recv hK w.1 (ci := 1) (q0 := 28) rfl rfl
theorem gtC_28_0 (X : px_X D (tyC cs) p s m args c cc RX1) (w : px_H D (wC cs ad) A H0 M H locs) (hd : decode cc pc = .ok (.getfield 9, 3)) (kk : W p l e R s m args below meth c H locs cells slots Q (F0 m (pc + 3) ls (.ref (ad 29) :: rest))) : W p l e R s m args below meth c H locs cells slots Q (F0 m pc ls (.ref (ad 28) :: rest)) := va_get (D := D) (ci := 1) (C := RX1) (T := TX1) (N := 2) X.1 X.2.1 X.2.2.1 wu_X1 X.2.2.2.1 X.2.2.2.2 w.1 28 rfl rfl 0 (by decide) (X.2.2.1 _ wf_X1_0) (fun _ h => h) rfl hd kk
theorem gtC_28_1 (X : px_X D (tyC cs) p s m args c cc RX1) (w : px_H D (wC cs ad) A H0 M H locs) (hd : decode cc pc = .ok (.getfield 15, 3)) (kk : W p l e R s m args below meth c H locs cells slots Q (F0 m (pc + 3) ls (.int (M 28 1) :: rest))) : W p l e R s m args below meth c H locs cells slots Q (F0 m pc ls (.ref (ad 28) :: rest)) := va_get (D := D) (ci := 1) (C := RX1) (T := TX1) (N := 2) X.1 X.2.1 X.2.2.1 wu_X1 X.2.2.2.1 X.2.2.2.2 w.1 28 rfl rfl 1 (by decide) (X.2.2.1 _ wf_X1_1) (fun _ h => h) rfl hd kk
theorem ptC_28_1 (X : px_X D (tyC cs) p s m args c cc RX1) (w : px_H D (wC cs ad) A H0 M H locs) (hd : decode cc pc = .ok (.putfield 15, 3)) (kk : ∀ (H : Heap) (locs : List Loc), px_H D (wC cs ad) A H0 (px_up M 28 1 x) H locs → W p l e R s m args below meth c H locs cells slots Q (F0 m (pc + 3) ls rest)) : W p l e R s m args below meth c H locs cells slots Q (F0 m pc ls (.int x :: .ref (ad 28) :: rest)) := va_put (D := D) (ci := 1) (v := .int x) (ty := .int) (C := RX1) (T := TX1) (N := 2) X.1 X.2.1 X.2.2.1 wu_X1 tyX1 tyX1_ok nmX1 X.2.2.2.1 X.2.2.2.2 w.1 w.2.1 w.2.2.1 28 rfl rfl 1 (by decide) (X.2.2.1 _ wf_X1_1) (fun _ h => h) rfl (by decide +kernel) rfl rfl (Nat.le_of_ble_eq_true rfl) hd (fun H1 locs1 hP hD hS => kk H1 locs1 ⟨hP, hD, hS, w.2.2.2⟩)
theorem ilC_29 {own : String} (X : px_X D (tyC cs) p s m args c cc own) (w : px_H D (wC cs ad) A H0 M H locs) (hi : vp_in i 200) (hd : decode cc pc = .ok (.iaload, 1)) (kk : W p l e R s m args below meth c H locs cells slots Q (F0 m (pc + 1) ls (.int (M 29 i.toNatClampNeg) :: rest))) : W p l e R s m args below meth c H locs cells slots Q (F0 m pc ls (.int i :: .ref (ad 29) :: rest)) := va_iald X.1 X.2.1 X.2.2.2.2 w.1 29 0 rfl rfl hi hd kk
theorem isC_29 {own : String} (X : px_X D (tyC cs) p s m args c cc own) (w : px_H D (wC cs ad) A H0 M H locs) (hi : vp_in i 200) (hd : decode cc pc = .ok (.iastore, 1)) (kk : ∀ (H : Heap) (locs : List Loc), px_H D (wC cs ad) A H0 (px_up M 29 i.toNatClampNeg x) H locs → W p l e R s m args below meth c H locs cells slots Q (F0 m (pc + 1) ls rest)) : W p l e R s m args below meth c H locs cells slots Q (F0 m pc ls (.int x :: .int i :: .ref (ad 29) :: rest)) := va_iast X.1 X.2.1 X.2.2.2.2 w.1 w.2.1 w.2.2.1 29 0 rfl rfl hi hd (fun H1 locs1 hP hD hS => kk H1 locs1 ⟨hP, hD, hS, w.2.2.2⟩)
theorem rcC_30 (hK : va_K D vwCl (tyC cs) s) (w : px_H D (wC cs ad) A H0 M H locs) : ∃ cell : Cell, H[ad 30]? = some cell ∧ cell.vm.isStatics = false ∧ s.vm.findClass RX1 = some cell.cls := va_recv hK w.1 (ci := 1) (q0 := 30) rfl rfl
theorem gtC_30_0 (X : px_X D (tyC cs) p s m args c cc RX1) (w : px_H D (wC cs ad) A H0 M H locs) (hd : decode cc pc = .ok (.getfield 9, 3)) (kk : W p l e R s m args below meth c H locs cells slots Q (F0 m (pc + 3) ls (.ref (ad 31) :: rest))) : W p l e R s m args below meth c H locs cells slots Q (F0 m pc ls (.ref (ad 30) :: rest)) := va_get (D := D) (ci := 1) (C := RX1) (T := TX1) (N := 2) X.1 X.2.1 X.2.2.1 wu_X1 X.2.2.2.1 X.2.2.2.2 w.1 30 rfl rfl 0 (by decide) (X.2.2.1 _ wf_X1_0) (fun _ h => h) rfl hd kk
theorem gtC_30_1 (X : px_X D (tyC cs) p s m args c cc RX1) (w : px_H D (wC cs ad) A H0 M H locs) (hd : decode cc pc = .ok (.getfield 15, 3)) (kk : W p l e R s m args below meth c H locs cells slots Q (F0 m (pc + 3) ls (.int (M 30 1) :: rest))) : W p l e R s m args below meth c H locs cells slots Q (F0 m pc ls (.ref (ad 30) :: rest)) := va_get (D := D) (ci := 1) (C := RX1) (T := TX1) (N := 2) X.1 X.2.1 X.2.2.1 wu_X1 X.2.2.2.1 X.2.2.2.2 w.1 30 rfl rfl 1 (by decide) (X.2.2.1 _ wf_X1_1) (fun _ h => h) rfl hd kk
theorem ptC_30_1 (X : px_X D (tyC cs) p s m args c cc RX1) (w : px_H D (wC cs ad) A H0 M H locs) (hd : decode cc pc = .ok (.putfield 15, 3)) (kk : ∀ (H : Heap) (locs : List Loc), px_H D (wC cs ad) A H0 (px_up M 30 1 x) H locs → W p l e R s m args below meth c H locs cells slots Q (F0 m (pc + 3) ls rest)) : W p l e R s m args below meth c H locs cells slots Q (F0 m pc ls (.int x :: .ref (ad 30) :: rest)) := va_put (D := D) (ci := 1) (v := .int x) (ty := .int) (C := RX1) (T := TX1) (N := 2) X.1 X.2.1 X.2.2.1 wu_X1 tyX1 tyX1_ok nmX1 X.2.2.2.1 X.2.2.2.2 w.1 w.2.1 w.2.2.1 30 rfl rfl 1 (by decide) (X.2.2.1 _ wf_X1_1) (fun _ h => h) rfl (by decide +kernel) rfl rfl (Nat.le_of_ble_eq_true rfl) hd (fun H1 locs1 hP hD hS => kk H1 locs1 ⟨hP, hD, hS, w.2.2.2⟩)
theorem ilC_31 {own : String} (X : px_X D (tyC cs) p s m args c cc own) (w : px_H D (wC cs ad) A H0 M H locs) (hi : vp_in i 200) (hd : decode cc pc = .ok (.iaload, 1)) (kk : W p l e R s m args below meth c H locs cells slots Q (F0 m (pc + 1) ls (.int (M 31 i.toNatClampNeg) :: rest))) : W p l e R s m args below meth c H locs cells slots Q (F0 m pc ls (.int i :: .ref (ad 31) :: rest)) := va_iald X.1 X.2.1 X.2.2.2.2 w.1 31 0 rfl rfl hi hd kk
theorem isC_31 {own : String} (X : px_X D (tyC cs) p s m args c cc own) (w : px_H D (wC cs ad) A H0 M H locs) (hi : vp_in i 200) (hd : decode cc pc = .ok (.iastore, 1)) (kk : ∀ (H : Heap) (locs : List Loc), px_H D (wC cs ad) A H0 (px_up M 31 i.toNatClampNeg x) H locs → W p l e R s m args below meth c H locs cells slots Q (F0 m (pc + 1) ls rest)) : W p l e R s m args below meth c H locs cells slots Q (F0 m pc ls (.int x :: .int i :: .ref (ad 31) :: rest)) := va_iast X.1 X.2.1 X.2.2.2.2 w.1 w.2.1 w.2.2.1 31 0 rfl rfl hi hd (fun H1 locs1 hP hD hS => kk H1 locs1 ⟨hP, hD, hS, w.2.2.2⟩)
theorem rcC_32 (hK : va_K D vwCl (tyC cs) s) (w : px_H D (wC cs ad) A H0 M H locs) : ∃ cell : Cell, H[ad 32]? = some cell ∧ cell.vm.isStatics = false ∧ s.vm.findClass RX3 = some cell.cls := va_recv hK w.1 (ci := 3) (q0 := 32) rfl rfl
theorem gtC_32_0 (X : px_X D (tyC cs) p s m args c cc RX3) (w : px_H D (wC cs ad) A H0 M H locs) (hd : decode cc pc = .ok (.getfield 53, 3)) (kk : W p l e R s m args below meth c H locs cells slots Q (F0 m (pc + 3) ls (.ref (ad 20) :: rest))) : W p l e R s m args below meth c H locs cells slots Q (F0 m pc ls (.ref (ad 32) :: rest)) := va_get (D := D) (ci := 3) (C := RX3) (T := TX3) (N := 15) X.1 X.2.1 X.2.2.1 wu_X3 X.2.2.2.1 X.2.2.2.2 w.1 32 rfl rfl 0 (by decide) (X.2.2.1 _ wf_X3_0) (fun _ h => h) rfl hd kk
theorem gtC_32_1 (X : px_X D (tyC cs) p s m args c cc RX3) (w : px_H D (wC cs ad) A H0 M H locs) (hd : decode cc pc = .ok (.getfield 57, 3)) (kk : W p l e R s m args below meth c H locs cells slots Q (F0 m (pc + 3) ls (.ref (ad 30) :: rest))) : W p l e R s m args below meth c H locs cells slots Q (F0 m pc ls (.ref (ad 32) :: rest)) := va_get (D := D) (ci := 3) (C := RX3) (T := TX3) (N := 15) X.1 X.2.1 X.2.2.1 wu_X3 X.2.2.2.1 X.2.2.2.2 w.1 32 rfl rfl 1 (by decide) (X.2.2.1 _ wf_X3_1) (fun _ h => h) rfl hd kk
theorem gtC_32_2 (X : px_X D (tyC cs) p s m args c cc RX3) (w : px_H D (wC cs ad) A H0 M H locs) (hd : decode cc pc = .ok (.getfield 9, 3)) (kk : W p l e R s m args below meth c H locs cells slots Q (F0 m (pc + 3) ls (.ref (ad 33) :: rest))) : W p l e R s m args below meth c H locs cells slots Q (F0 m pc ls (.ref (ad 32) :: rest)) := va_get (D := D) (ci := 3) (C := RX3) (T := TX3) (N := 15) X.1 X.2.1 X.2.2.1 wu_X3 X.2.2.2.1 X.2.2.2.2 w.1 32 rfl rfl 2 (by decide) (X.2.2.1 _ wf_X3_2) (fun _ h => h) rfl hd kk
theorem gtC_32_3 (X : px_X D (tyC cs) p s m args c cc RX3) (w : px_H D (wC cs ad) A H0 M H locs) (hd : decode cc pc = .ok (.getfield 15, 3)) (kk : W p l e R s m args below meth c H locs cells slots Q (F0 m (pc + 3) ls (.ref (ad 34) :: rest))) : W p l e R s m args below meth c H locs cells slots Q (F0 m pc ls (.ref (ad 32) :: rest)) := va_get (D := D) (ci := 3) (C := RX3) (T := TX3) (N := 15) X.1 X.2.1 X.2.2.1 wu_X3 X.2.2.2.1 X.2.2.2.2 w.1 32 rfl rfl 3 (by decide) (X.2.2.1 _ wf_X3_3) (fun _ h => h) rfl hd kk
theorem gtC_32_4 (X : px_X D (tyC cs) p s m args c cc RX3) (w : px_H D (wC cs ad) A H0 M H locs) (hd : decode cc pc = .ok (.getfield 18, 3)) (kk : W p l e R s m args below meth c H locs cells slots Q (F0 m (pc + 3) ls (.ref (ad 35) :: rest))) : W p l e R s m args below meth c H locs cells slots Q (F0 m pc ls (.ref (ad 32) :: rest)) := va_get (D := D) (ci := 3) (C := RX3) (T := TX3) (N := 15) X.1 X.2.1 X.2.2.1 wu_X3 X.2.2.2.1 X.2.2.2.2 w.1 32 rfl rfl 4 (by decide) (X.2.2.1 _ wf_X3_4) (fun _ h => h) rfl hd kk
theorem gtC_32_5 (X : px_X D (tyC cs) p s m args c cc RX3) (w : px_H D (wC cs ad) A H0 M H locs) (hd : decode cc pc = .ok (.getfield 22, 3)) (kk : W p l e R s m args below meth c H locs cells slots Q (F0 m (pc + 3) ls (.ref (ad 36) :: rest))) : W p l e R s m args below meth c H locs cells slots Q (F0 m pc ls (.ref (ad 32) :: rest)) := va_get (D := D) (ci := 3) (C := RX3) (T := TX3) (N := 15) X.1 X.2.1 X.2.2.1 wu_X3 X.2.2.2.1 X.2.2.2.2 w.1 32 rfl rfl 5 (by decide) (X.2.2.1 _ wf_X3_5) (fun _ h => h) rfl hd kk
theorem gtC_32_6 (X : px_X D (tyC cs) p s m args c cc RX3) (w : px_H D (wC cs ad) A H0 M H locs) (hd : decode cc pc = .ok (.getfield 25, 3)) (kk : W p l e R s m args below meth c H locs cells slots Q (F0 m (pc + 3) ls (.ref (ad 37) :: rest))) : W p l e R s m args below meth c H locs cells slots Q (F0 m pc ls (.ref (ad 32) :: rest)) := va_get (D := D) (ci := 3) (C := RX3) (T := TX3) (N := 15) X.1 X.2.1 X.2.2.1 wu_X3 X.2.2.2.1 X.2.2.2.2 w.1 32 rfl rfl 6 (by decide) (X.2.2.1 _ wf_X3_6) (fun _ h => h) rfl hd kk
theorem gtC_32_7 (X : px_X D (tyC cs) p s m args c cc RX3) (w : px_H D (wC cs ad) A H0 M H locs) (hd : decode cc pc = .ok (.getfield 28, 3)) (kk : W p l e R s m args below meth c H locs cells slots Q (F0 m (pc + 3) ls (.int (M 32 7) :: rest))) : W p l e R s m args below meth c H locs cells slots Q (F0 m pc ls (.ref (ad 32) :: rest)) := va_get (D := D) (ci := 3) (C := RX3) (T := TX3) (N := 15) X.1 X.2.1 X.2.2.1 wu_X3 X.2.2.2.1 X.2.2.2.2 w.1 32 rfl rfl 7 (by decide) (X.2.2.1 _ wf_X3_7) (fun _ h => h) rfl hd kk
theorem ptC_32_7 (X : px_X D (tyC cs) p s m args c cc RX3) (w : px_H D (wC cs ad) A H0 M H locs) (hd : decode cc pc = .ok (.putfield 28, 3)) (kk : ∀ (H : Heap) (locs : List Loc), px_H D (wC cs ad) A H0 (px_up M 32 7 x) H locs → W p l e R s m args below meth c H locs cells slots Q (F0 m (pc + 3) ls rest)) : W p l e R s m args below meth c H locs cells slots Q (F0 m pc ls (.int x :: .ref (ad 32) :: rest)) := va_put (D := D) (ci := 3) (v := .int x) (ty := .int) (C := RX3) (T := TX3) (N := 15) X.1 X.2.1 X.2.2.1 wu_X3 tyX3 tyX3_ok nmX3 X.2.2.2.1 X.2.2.2.2 w.1 w.2.1 w.2.2.1 32 rfl rfl 7 (by decide) (X.2.2.1 _ wf_X3_7) (fun _ h => h) rfl (by decide +kernel) rfl rfl (Nat.le_of_ble_eq_true rfl) hd (fun H1 locs1 hP hD hS => kk H1 locs1 ⟨hP, hD, hS, w.2.2.2⟩)
theorem gtC_32_8 (X : px_X D (tyC cs) p s m args c cc RX3) (w : px_H D (wC cs ad) A H0 M H locs) (hd : decode cc pc = .ok (.getfield 32, 3)) (kk : W p l e R s m args below meth c H locs cells slots Q (F0 m (pc + 3) ls (.ref (ad 38) :: rest))) : W p l e R s m args below meth c H locs cells slots Q (F0 m pc ls (.ref (ad 32) :: rest)) := va_get (D := D) (ci := 3) (C := RX3) (T := TX3) (N := 15) X.1 X.2.1 X.2.2.1 wu_X3 X.2.2.2.1 X.2.2.2.2 w.1 32 rfl rfl 8 (by decide) (X.2.2.1 _ wf_X3_8) (fun _ h => h) rfl hd kk
theorem gtC_32_9 (X : px_X D (tyC cs) p s m args c cc RX3) (w : px_H D (wC cs ad) A H0 M H locs) (hd : decode cc pc = .ok (.getfield 35, 3)) (kk : W p l e R s m args below meth c H locs cells slots Q (F0 m (pc + 3) ls (.int (M 32 9) :: rest))) : W p l e R s m args below meth c H locs cells slots Q (F0 m pc ls (.ref (ad 32) :: rest)) := va_get (D := D) (ci := 3) (C := RX3) (T := TX3) (N := 15) X.1 X.2.1 X.2.2.1 wu_X3 X.2.2.2.1 X.2.2.2.2 w.1 32 rfl rfl 9 (by decide) (X.2.2.1 _ wf_X3_9) (fun _ h => h) rfl hd kk
theorem ptC_32_9 (X : px_X D (tyC cs) p s m args c cc RX3) (w : px_H D (wC cs ad) A H0 M H locs) (hd : decode cc pc = .ok (.putfield 35, 3)) (kk : ∀ (H : Heap) (locs : List Loc), px_H D (wC cs ad) A H0 (px_up M 32 9 x) H locs → W p l e R s m args below meth c H locs cells slots Q (F0 m (pc + 3) ls rest)) : W p l e R s m args below meth c H locs cells slots Q (F0 m pc ls (.int x :: .ref (ad 32) :: rest)) := va_put (D := D) (ci := 3) (v := .int x) (ty := .int) (C := RX3) (T := TX3) (N := 15) X.1 X.2.1 X.2.2.1 wu_X3 tyX3 tyX3_ok nmX3 X.2.2.2.1 X.2.2.2.2 w.1 w.2.1 w.2.2.1 32 rfl rfl 9 (by decide) (X.2.2.1 _ wf_X3_9) (fun _ h => h) rfl (by decide +kernel) rfl rfl (Nat.le_of_ble_eq_true rfl) hd (fun H1 locs1 hP hD hS => kk H1 locs1 ⟨hP, hD, hS, w.2.2.2⟩)
theorem gtC_32_10 (X : px_X D (tyC cs) p s m args c cc RX3) (w : px_H D (wC cs ad) A H0 M H locs) (hd : decode cc pc = .ok (.getfield 38, 3)) (kk : W p l e R s m args below meth c H locs cells slots Q (F0 m (pc + 3) ls (.ref (ad 39) :: rest))) : W p l e R s m args below meth c H locs cells slots Q (F0 m pc ls (.ref (ad 32) :: rest)) := va_get (D := D) (ci := 3) (C := RX3) (T := TX3) (N := 15) X.1 X.2.1 X.2.2.1 wu_X3 X.2.2.2.1 X.2.2.2.2 w.1 32 rfl rfl 10 (by decide) (X.2.2.1 _ wf_X3_10) (fun _ h => h) rfl hd kk
theorem gtC_32_11 (X : px_X D (tyC cs) p s m args c cc RX3) (w : px_H D (wC cs ad) A H0 M H locs) (hd : decode cc pc = .ok (.getfield 41, 3)) (kk : W p l e R s m args below meth c H locs cells slots Q (F0 m (pc + 3) ls (.ref (ad 40) :: rest))) : W p l e R s m args below meth c H locs cells slots Q (F0 m pc ls (.ref (ad 32) :: rest)) := va_get (D := D) (ci := 3) (C := RX3) (T := TX3) (N := 15) X.1 X.2.1 X.2.2.1 wu_X3 X.2.2.2.1 X.2.2.2.2 w.1 32 rfl rfl 11 (by decide) (X.2.2.1 _ wf_X3_11) (fun _ h => h) rfl hd kk
theorem gtC_32_12 (X : px_X D (tyC cs) p s m args c cc RX3) (w : px_H D (wC cs ad) A H0 M H locs) (hd : decode cc pc = .ok (.getfield 44, 3)) (kk : W p l e R s m args below meth c H locs cells slots Q (F0 m (pc + 3) ls (.ref (ad 41) :: rest))) : W p l e R s m args below meth c H locs cells slots Q (F0 m pc ls (.ref (ad 32) :: rest)) := va_get (D := D) (ci := 3) (C := RX3) (T := TX3) (N := 15) X.1 X.2.1 X.2.2.1 wu_X3 X.2.2.2.1 X.2.2.2.2 w.1 32 rfl rfl 12 (by decide) (X.2.2.1 _ wf_X3_12) (fun _ h => h) rfl hd kk
theorem gtC_32_13 (X : px_X D (tyC cs) p s m args c cc RX3) (w : px_H D (wC cs ad) A H0 M H locs) (hd : decode cc pc = .ok (.getfield 47, 3)) (kk : W p l e R s m args below meth c H locs cells slots Q (F0 m (pc + 3) ls (.ref (ad 42) :: rest))) : W p l e R s m args below meth c H locs cells slots Q (F0 m pc ls (.ref (ad 32) :: rest)) := va_get (D := D) (ci := 3) (C := RX3) (T := TX3) (N := 15) X.1 X.2.1 X.2.2.1 wu_X3 X.2.2.2.1 X.2.2.2.2 w.1 32 rfl rfl 13 (by decide) (X.2.2.1 _ wf_X3_13) (fun _ h => h) rfl hd kk
theorem gtC_32_14 (X : px_X D (tyC cs) p s m args c cc RX3) (w : px_H D (wC cs ad) A H0 M H locs) (hd : decode cc pc = .ok (.getfield 50, 3)) (kk : W p l e R s m args below meth c H locs cells slots Q (F0 m (pc + 3) ls (.int (M 32 14) :: rest))) : W p l e R s m args below meth c H locs cells slots Q (F0 m pc ls (.ref (ad 32) :: rest)) := va_get (D := D) (ci := 3) (C := RX3) (T := TX3) (N := 15) X.1 X.2.1 X.2.2.1 wu_X3 X.2.2.2.1 X.2.2.2.2 w.1 32 rfl rfl 14 (by decide) (X.2.2.1 _ wf_X3_14) (fun _ h => h) rfl hd kk
theorem ptC_32_14 (X : px_X D (tyC cs) p s m args c cc RX3) (w : px_H D (wC cs ad) A H0 M H locs) (hd : decode cc pc = .ok (.putfield 50, 3)) (kk : ∀ (H : Heap) (locs : List Loc), px_H D (wC cs ad) A H0 (px_up M 32 14 x) H locs → W p l e R s m args below meth c H locs cells slots Q (F0 m (pc + 3) ls rest)) : W p l e R s m args below meth c H locs cells slots Q (F0 m pc ls (.int x :: .ref (ad 32) :: rest)) := va_put (D := D) (ci := 3) (v := .int x) (ty := .int) (C := RX3) (T := TX3) (N := 15) X.1 X.2.1 X.2.2.1 wu_X3 tyX3 tyX3_ok nmX3 X.2.2.2.1 X.2.2.2.2 w.1 w.2.1 w.2.2.1 32 rfl rfl 14 (by decide) (X.2.2.1 _ wf_X3_14) (fun _ h => h) rfl (by decide +kernel) rfl rfl (Nat.le_of_ble_eq_true rfl) hd (fun H1 locs1 hP hD hS => kk H1 locs1 ⟨hP, hD, hS, w.2.2.2⟩)
theorem ilC_33 {own : String} (X : px_X D (tyC cs) p s m args c cc own) (w : px_H D (wC cs ad) A H0 M H locs) (hi : vp_in i 40) (hd : decode cc pc = .ok (.iaload, 1)) (kk : W p l e R s m args below meth c H locs cells slots Q (F0 m (pc + 1) ls (.int (M 33 i.toNatClampNeg) :: rest))) : W p l e R s m args below meth c H locs cells slots Q (F0 m pc ls (.int i :: .ref (ad 33) :: rest)) := va_iald X.1 X.2.1 X.2.2.2.2 w.1 33 0 rfl rfl hi hd kk
theorem isC_33 {own : String} (X : px_X D (tyC cs) p s m args c cc own) (w : px_H D (wC cs ad) A H0 M H locs) (hi : vp_in i 40) (hd : decode cc pc = .ok (.iastore, 1)) (kk : ∀ (H : Heap) (locs : List Loc), px_H D (wC cs ad) A H0 (px_up M 33 i.toNatClampNeg x) H locs → W p l e R s m args below meth c H locs cells slots Q (F0 m (pc + 1) ls rest)) : W p l e R s m args below meth c H locs cells slots Q (F0 m pc ls (.int x :: .int i :: .ref (ad 33) :: rest)) := va_iast X.1 X.2.1 X.2.2.2.2 w.1 w.2.1 w.2.2.1 33 0 rfl rfl hi hd (fun H1 locs1 hP hD hS => kk H1 locs1 ⟨hP, hD, hS, w.2.2.2⟩)
theorem ilC_34 {own : String} (X : px_X D (tyC cs) p s m args c cc own) (w : px_H D (wC cs ad) A H0 M H locs) (hi : vp_in i 40) (hd : decode cc pc = .ok (.iaload, 1)) (kk : W p l e R s m args below meth c H locs cells slots Q (F0 m (pc + 1) ls (.int (M 34 i.toNatClampNeg) :: rest))) : W p l e R s m args below meth c H locs cells slots Q (F0 m pc ls (.int i :: .ref (ad 34) :: rest)) := va_iald X.1 X.2.1 X.2.2.2.2 w.1 34 0 rfl rfl hi hd kk
theorem isC_34 {own : String} (X : px_X D (tyC cs) p s m args c cc own) (w : px_H D (wC cs ad) A H0 M H locs) (hi : vp_in i 40) (hd : decode cc pc = .ok (.iastore, 1)) (kk : ∀ (H : Heap) (locs : List Loc), px_H D (wC cs ad) A H0 (px_up M 34 i.toNatClampNeg x) H locs → W p l e R s m args below meth c H locs cells slots Q (F0 m (pc + 1) ls rest)) : W p l e R s m args below meth c H locs cells slots Q (F0 m pc ls (.int x :: .int i :: .ref (ad 34) :: rest)) := va_iast X.1 X.2.1 X.2.2.2.2 w.1 w.2.1 w.2.2.1 34 0 rfl rfl hi hd (fun H1 locs1 hP hD hS => kk H1 locs1 ⟨hP, hD, hS, w.2.2.2⟩)
theorem ilC_35 {own : String} (X : px_X D (tyC cs) p s m args c cc own) (w : px_H D (wC cs ad) A H0 M H locs) (hi : vp_in i 40) (hd : decode cc pc = .ok (.baload, 1)) (kk : W p l e R s m args below meth c H locs cells slots Q (F0 m (pc + 1) ls (.int (M 35 i.toNatClampNeg) :: rest))) : W p l e R s m args below meth c H locs cells slots Q (F0 m pc ls (.int i :: .ref (ad 35) :: rest)) := va_zald X.1 X.2.1 X.2.2.2.2 w.1 35 1 rfl rfl hi hd kk
theorem isC_35 {own : String} (X : px_X D (tyC cs) p s m args c cc own) (w : px_H D (wC cs ad) A H0 M H locs) (hi : vp_in i 40) (hz : narrow .boolean (.int x) = .int x) (hd : decode cc pc = .ok (.bastore, 1)) (kk : ∀ (H : Heap) (locs : List Loc), px_H D (wC cs ad) A H0 (px_up M 35 i.toNatClampNeg x) H locs → W p l e R s m args below meth c H locs cells slots Q (F0 m (pc + 1) ls rest)) : W p l e R s m args below meth c H locs cells slots Q (F0 m pc ls (.int x :: .int i :: .ref (ad 35) :: rest)) := by
  have hv : vp_nar .boolean x = x := by unfold vp_nar; rw [hz]
  refine va_zast X.1 X.2.1 X.2.2.2.2 w.1 w.2.1 w.2.2.1 35 1 rfl rfl hi hd (fun H1 locs1 hP hD hS => ?_)
  rw [hv] at hP hD
  exact kk H1 locs1 ⟨hP, hD, hS, w.2.2.2⟩
theorem ilC_36 {own : String} (X : px_X D (tyC cs) p s m args c cc own) (w : px_H D (wC cs ad) A H0 M H locs) (hi : vp_in i 40) (hd : decode cc pc = .ok (.baload, 1)) (kk : W p l e R s m args below meth c H locs cells slots Q (F0 m (pc + 1) ls (.int (M 36 i.toNatClampNeg) :: rest))) : W p l e R s m args below meth c H locs cells slots Q (F0 m pc ls (.int i :: .ref (ad 36) :: rest)) := va_zald X.1 X.2.1 X.2.2.2.2 w.1 36 1 rfl rfl hi hd kk
theorem isC_36 {own : String} (X : px_X D (tyC cs) p s m args c cc own) (w : px_H D (wC cs ad) A H0 M H locs) (hi : vp_in i 40) (hz : narrow .boolean (.int x) = .int x) (hd : decode cc pc = .ok (.bastore, 1)) (kk : ∀ (H : Heap) (locs : List Loc), px_H D (wC cs ad) A H0 (px_up M 36 i.toNatClampNeg x) H locs → W p l e R s m args below meth c H locs cells slots Q (F0 m (pc + 1) ls rest)) : W p l e R s m args below meth c H locs cells slots Q (F0 m pc ls (.int x :: .int i :: .ref (ad 36) :: rest)) := by
  have hv : vp_nar .boolean x = x := by unfold vp_nar; rw [hz]
  refine va_zast X.1 X.2.1 X.2.2.2.2 w.1 w.2.1 w.2.2.1 36 1 rfl rfl hi hd (fun H1 locs1 hP hD hS => ?_)
  rw [hv] at hP hD
  exact kk H1 locs1 ⟨hP, hD, hS, w.2.2.2⟩
theorem ilC_37 {own : String} (X : px_X D (tyC cs) p s m args c cc own) (w : px_H D (wC cs ad) A H0 M H locs) (hi : vp_in i 40) (hd : decode cc pc = .ok (.baload, 1)) (kk : W p l e R s m args below meth c H locs cells slots Q (F0 m (pc + 1) ls (.int (M 37 i.toNatClampNeg) :: rest))) : W p l e R s m args below meth c H locs cells slots Q (F0 m pc ls (.int i :: .ref (ad 37) :: rest)) := va_zald X.1 X.2.1 X.2.2.2.2 w.1 37 1 rfl rfl hi hd kk
theorem isC_37 {own : String} (X : px_X D (tyC cs) p s m args c cc own) (w : px_H D (wC cs ad) A H0 M H locs) (hi : vp_in i 40) (hz : narrow .boolean (.int x) = .int x) (hd : decode cc pc = .ok (.bastore, 1)) (kk : ∀ (H : Heap) (locs : List Loc), px_H D (wC cs ad) A H0 (px_up M 37 i.toNatClampNeg x) H locs → W p l e R s m args below meth c H locs cells slots Q (F0 m (pc + 1) ls rest)) : W p l e R s m args below meth c H locs cells slots Q (F0 m pc ls (.int x :: .int i :: .ref (ad 37) :: rest)) := by
  have hv : vp_nar .boolean x = x := by unfold vp_nar; rw [hz]
  refine va_zast X.1 X.2.1 X.2.2.2.2 w.1 w.2.1 w.2.2.1 37 1 rfl rfl hi hd (fun H1 locs1 hP hD hS => ?_)
  rw [hv] at hP hD
  exact kk H1 locs1 ⟨hP, hD, hS, w.2.2.2⟩
theorem ilC_38 {own : String} (X : px_X D (tyC cs) p s m args c cc own) (w : px_H D (wC cs ad) A H0 M H locs) (hi : vp_in i 40) (hd : decode cc pc = .ok (.iaload, 1)) (kk : W p l e R s m args below meth c H locs cells slots Q (F0 m (pc + 1) ls (.int (M 38 i.toNatClampNeg) :: rest))) : W p l e R s m args below meth c H locs cells slots Q (F0 m pc ls (.int i :: .ref (ad 38) :: rest)) := va_iald X.1 X.2.1 X.2.2.2.2 w.1 38 0 rfl rfl hi hd kk
theorem isC_38 {own : String} (X : px_X D (tyC cs) p s m args c cc own) (w : px_H D (wC cs ad) A H0 M H locs) (hi : vp_in i 40) (hd : decode cc pc = .ok (.iastore, 1)) (kk : ∀ (H : Heap) (locs : List Loc), px_H D (wC cs ad) A H0 (px_up M 38 i.toNatClampNeg x) H locs → W p l e R s m args below meth c H locs cells slots Q (F0 m (pc + 1) ls rest)) : W p l e R s m args below meth c H locs cells slots Q (F0 m pc ls (.int x :: .int i :: .ref (ad 38) :: rest)) := va_iast X.1 X.2.1 X.2.2.2.2 w.1 w.2.1 w.2.2.1 38 0 rfl rfl hi hd (fun H1 locs1 hP hD hS => kk H1 locs1 ⟨hP, hD, hS, w.2.2.2⟩)
theorem ilC_39 {own : String} (X : px_X D (tyC cs) p s m args c cc own) (w : px_H D (wC cs ad) A H0 M H locs) (hi : vp_in i 80) (hd : decode cc pc = .ok (.iaload, 1)) (kk : W p l e R s m args below meth c H locs cells slots Q (F0 m (pc + 1) ls (.int (M 39 i.toNatClampNeg) :: rest))) : W p l e R s m args below meth c H locs cells slots Q (F0 m pc ls (.int i :: .ref (ad 39) :: rest)) := va_iald X.1 X.2.1 X.2.2.2.2 w.1 39 0 rfl rfl hi hd kk
theorem isC_39 {own : String} (X : px_X D (tyC cs) p s m args c cc own) (w : px_H D (wC cs ad) A H0 M H locs) (hi : vp_in i 80) (hd : decode cc pc = .ok (.iastore, 1)) (kk : ∀ (H : Heap) (locs : List Loc), px_H D (wC cs ad) A H0 (px_up M 39 i.toNatClampNeg x) H locs → W p l e R s m args below meth c H locs cells slots Q (F0 m (pc + 1) ls rest)) : W p l e R s m args below meth c H locs cells slots Q (F0 m pc ls (.int x :: .int i :: .ref (ad 39) :: rest)) := va_iast X.1 X.2.1 X.2.2.2.2 w.1 w.2.1 w.2.2.1 39 0 rfl rfl hi hd (fun H1 locs1 hP hD hS => kk H1 locs1 ⟨hP, hD, hS, w.2.2.2⟩)
theorem ilC_40 {own : String} (X : px_X D (tyC cs) p s m args c cc own) (w : px_H D (wC cs ad) A H0 M H locs) (hi : vp_in i 80) (hd : decode cc pc = .ok (.iaload, 1)) (kk : W p l e R s m args below meth c H locs cells slots Q (F0 m (pc + 1) ls (.int (M 40 i.toNatClampNeg) :: rest))) : W p l e R s m args below meth c H locs cells slots Q (F0 m pc ls (.int i :: .ref (ad 40) :: rest)) := va_iald X.1 X.2.1 X.2.2.2.2 w.1 40 0 rfl rfl hi hd kk
theorem isC_40 {own : String} (X : px_X D (tyC cs) p s m args c cc own) (w : px_H D (wC cs ad) A H0 M H locs) (hi : vp_in i 80) (hd : decode cc pc = .ok (.iastore, 1)) (kk : ∀ (H : Heap) (locs : List Loc), px_H D (wC cs ad) A H0 (px_up M 40 i.toNatClampNeg x) H locs → W p l e R s m args below meth c H locs cells slots Q (F0 m (pc + 1) ls rest)) : W p l e R s m args below meth c H locs cells slots Q (F0 m pc ls (.int x :: .int i :: .ref (ad 40) :: rest)) := va_iast X.1 X.2.1 X.2.2.2.2 w.1 w.2.1 w.2.2.1 40 0 rfl rfl hi hd (fun H1 locs1 hP hD hS => kk H1 locs1 ⟨hP, hD, hS, w.2.2.2⟩)
theorem ilC_41 {own : String} (X : px_X D (tyC cs) p s m args c cc own) (w : px_H D (wC cs ad) A H0 M H locs) (hi : vp_in i 80) (hd : decode cc pc = .ok (.iaload, 1)) (kk : W p l e R s m args below meth c H locs cells slots Q (F0 m (pc + 1) ls (.int (M 41 i.toNatClampNeg) :: rest))) : W p l e R s m args below meth c H locs cells slots Q (F0 m pc ls (.int i :: .ref (ad 41) :: rest)) := va_iald X.1 X.2.1 X.2.2.2.2 w.1 41 0 rfl rfl hi hd kk
theorem isC_41 {own : String} (X : px_X D (tyC cs) p s m args c cc own) (w : px_H D (wC cs ad) A H0 M H locs) (hi : vp_in i 80) (hd : decode cc pc = .ok (.iastore, 1)) (kk : ∀ (H : Heap) (locs : List Loc), px_H D (wC cs ad) A H0 (px_up M 41 i.toNatClampNeg x) H locs → W p l e R s m args below meth c H locs cells slots Q (F0 m (pc + 1) ls rest)) : W p l e R s m args below meth c H locs cells slots Q (F0 m pc ls (.int x :: .int i :: .ref (ad 41) :: rest)) := va_iast X.1 X.2.1 X.2.2.2.2 w.1 w.2.1 w.2.2.1 41 0 rfl rfl hi hd (fun H1 locs1 hP hD hS => kk H1 locs1 ⟨hP, hD, hS, w.2.2.2⟩)
theorem ilC_42 {own : String} (X : px_X D (tyC cs) p s m args c cc own) (w : px_H D (wC cs ad) A H0 M H locs) (hi : vp_in i 80) (hd : decode cc pc = .ok (.iaload, 1)) (kk : W p l e R s m args below meth c H locs cells slots Q (F0 m (pc + 1) ls (.int (M 42 i.toNatClampNeg) :: rest))) : W p l e R s m args below meth c H locs cells slots Q (F0 m pc ls (.int i :: .ref (ad 42) :: rest)) := va_iald X.1 X.2.1 X.2.2.2.2 w.1 42 0 rfl rfl hi hd kk
theorem isC_42 {own : String} (X : px_X D (tyC cs) p s m args c cc own) (w : px_H D (wC cs ad) A H0 M H locs) (hi : vp_in i 80) (hd : decode cc pc = .ok (.iastore, 1)) (kk : ∀ (H : Heap) (locs : List Loc), px_H D (wC cs ad) A H0 (px_up M 42 i.toNatClampNeg x) H locs → W p l e R s m args below meth c H locs cells slots Q (F0 m (pc + 1) ls rest)) : W p l e R s m args below meth c H locs cells slots Q (F0 m pc ls (.int x :: .int i :: .ref (ad 42) :: rest)) := va_iast X.1 X.2.1 X.2.2.2.2 w.1 w.2.1 w.2.2.1 42 0 rfl rfl hi hd (fun H1 locs1 hP hD hS => kk H1 locs1 ⟨hP, hD, hS, w.2.2.2⟩)
theorem rcC_43 (hK : va_K D vwCl (tyC cs) s) (w : px_H D (wC cs ad) A H0 M H locs) : ∃ cell : Cell, H[ad 43]? = some cell ∧ cell.vm.isStatics = false ∧ s.vm.findClass RX4 = some cell.cls := va_recv hK w.1 (ci := 4) (q0 := 43) rfl rfl
theorem gtC_43_0 (X : px_X D (tyC cs) p s m args c cc RX4) (w : px_H D (wC cs ad) A H0 M H locs) (hd : decode cc pc = .ok (.getfield 9, 3)) (kk : W p l e R s m args below meth c H locs cells slots Q (F0 m (pc + 3) ls (.ref (ad 44) :: rest))) : W p l e R s m args below meth c H locs cells slots Q (F0 m pc ls (.ref (ad 43) :: rest)) := va_get (D := D) (ci := 4) (C := RX4) (T := TX4) (N := 10) X.1 X.2.1 X.2.2.1 wu_X4 X.2.2.2.1 X.2.2.2.2 w.1 43 rfl rfl 0 (by decide) (X.2.2.1 _ wf_X4_0) (fun _ h => h) rfl hd kk
theorem gtC_43_1 (X : px_X D (tyC cs) p s m args c cc RX4) (w : px_H D (wC cs ad) A H0 M H locs) (hd : decode cc pc = .ok (.getfield 15, 3)) (kk : W p l e R s m args below meth c H locs cells slots Q (F0 m (pc + 3) ls (.ref (ad 45) :: rest))) : W p l e R s m args below meth c H locs cells slots Q (F0 m pc ls (.ref (ad 43) :: rest)) := va_get (D := D) (ci := 4) (C := RX4) (T := TX4) (N := 10) X.1 X.2.1 X.2.2.1 wu_X4 X.2.2.2.1 X.2.2.2.2 w.1 43 rfl rfl 1 (by decide) (X.2.2.1 _ wf_X4_1) (fun _ h => h) rfl hd kk
theorem gtC_43_2 (X : px_X D (tyC cs) p s m args c cc RX4) (w : px_H D (wC cs ad) A H0 M H locs) (hd : decode cc pc = .ok (.getfield 18, 3)) (kk : W p l e R s m args below meth c H locs cells slots Q (F0 m (pc + 3) ls (.ref (ad 46) :: rest))) : W p l e R s m args below meth c H locs cells slots Q (F0 m pc ls (.ref (ad 43) :: rest)) := va_get (D := D) (ci := 4) (C := RX4) (T := TX4) (N := 10) X.1 X.2.1 X.2.2.1 wu_X4 X.2.2.2.1 X.2.2.2.2 w.1 43 rfl rfl 2 (by decide) (X.2.2.1 _ wf_X4_2) (fun _ h => h) rfl hd kk
theorem gtC_43_3 (X : px_X D (tyC cs) p s m args c cc RX4) (w : px_H D (wC cs ad) A H0 M H locs) (hd : decode cc pc = .ok (.getfield 21, 3)) (kk : W p l e R s m args below meth c H locs cells slots Q (F0 m (pc + 3) ls (.ref (ad 47) :: rest))) : W p l e R s m args below meth c H locs cells slots Q (F0 m pc ls (.ref (ad 43) :: rest)) := va_get (D := D) (ci := 4) (C := RX4) (T := TX4) (N := 10) X.1 X.2.1 X.2.2.1 wu_X4 X.2.2.2.1 X.2.2.2.2 w.1 43 rfl rfl 3 (by decide) (X.2.2.1 _ wf_X4_3) (fun _ h => h) rfl hd kk
theorem gtC_43_4 (X : px_X D (tyC cs) p s m args c cc RX4) (w : px_H D (wC cs ad) A H0 M H locs) (hd : decode cc pc = .ok (.getfield 24, 3)) (kk : W p l e R s m args below meth c H locs cells slots Q (F0 m (pc + 3) ls (.ref (ad 48) :: rest))) : W p l e R s m args below meth c H locs cells slots Q (F0 m pc ls (.ref (ad 43) :: rest)) := va_get (D := D) (ci := 4) (C := RX4) (T := TX4) (N := 10) X.1 X.2.1 X.2.2.1 wu_X4 X.2.2.2.1 X.2.2.2.2 w.1 43 rfl rfl 4 (by decide) (X.2.2.1 _ wf_X4_4) (fun _ h => h) rfl hd kk
theorem gtC_43_5 (X : px_X D (tyC cs) p s m args c cc RX4) (w : px_H D (wC cs ad) A H0 M H locs) (hd : decode cc pc = .ok (.getfield 27, 3)) (kk : W p l e R s m args below meth c H locs cells slots Q (F0 m (pc + 3) ls (.ref (ad 49) :: rest))) : W p l e R s m args below meth c H locs cells slots Q (F0 m pc ls (.ref (ad 43) :: rest)) := va_get (D := D) (ci := 4) (C := RX4) (T := TX4) (N := 10) X.1 X.2.1 X.2.2.1 wu_X4 X.2.2.2.1 X.2.2.2.2 w.1 43 rfl rfl 5 (by decide) (X.2.2.1 _ wf_X4_5) (fun _ h => h) rfl hd kk
theorem gtC_43_6 (X : px_X D (tyC cs) p s m args c cc RX4) (w : px_H D (wC cs ad) A H0 M H locs) (hd : decode cc pc = .ok (.getfield 30, 3)) (kk : W p l e R s m args below meth c H locs cells slots Q (F0 m (pc + 3) ls (.ref (ad 50) :: rest))) : W p l e R s m args below meth c H locs cells slots Q (F0 m pc ls (.ref (ad 43) :: rest)) := va_get (D := D) (ci := 4) (C := RX4) (T := TX4) (N := 10) X.1 X.2.1 X.2.2.1 wu_X4 X.2.2.2.1 X.2.2.2.2 w.1 43 rfl rfl 6 (by decide) (X.2.2.1 _ wf_X4_6) (fun _ h => h) rfl hd kk
theorem gtC_43_7 (X : px_X D (tyC cs) p s m args c cc RX4) (w : px_H D (wC cs ad) A H0 M H locs) (hd : decode cc pc = .ok (.getfield 34, 3)) (kk : W p l e R s m args below meth c H locs cells slots Q (F0 m (pc + 3) ls (.ref (ad 51) :: rest))) : W p l e R s m args below meth c H locs cells slots Q (F0 m pc ls (.ref (ad 43) :: rest)) := va_get (D := D) (ci := 4) (C := RX4) (T := TX4) (N := 10) X.1 X.2.1 X.2.2.1 wu_X4 X.2.2.2.1 X.2.2.2.2 w.1 43 rfl rfl 7 (by decide) (X.2.2.1 _ wf_X4_7) (fun _ h => h) rfl hd kk
theorem gtC_43_8 (X : px_X D (tyC cs) p s m args c cc RX4) (w : px_H D (wC cs ad) A H0 M H locs) (hd : decode cc pc = .ok (.getfield 37, 3)) (kk : W p l e R s m args below meth c H locs cells slots Q (F0 m (pc + 3) ls (.int (M 43 8) :: rest))) : W p l e R s m args below meth c H locs cells slots Q (F0 m pc ls (.ref (ad 43) :: rest)) := va_get (D := D) (ci := 4) (C := RX4) (T := TX4) (N := 10) X.1 X.2.1 X.2.2.1 wu_X4 X.2.2.2.1 X.2.2.2.2 w.1 43 rfl rfl 8 (by decide) (X.2.2.1 _ wf_X4_8) (fun _ h => h) rfl hd kk
theorem ptC_43_8 (X : px_X D (tyC cs) p s m args c cc RX4) (w : px_H D (wC cs ad) A H0 M H locs) (hd : decode cc pc = .ok (.putfield 37, 3)) (kk : ∀ (H : Heap) (locs : List Loc), px_H D (wC cs ad) A H0 (px_up M 43 8 x) H locs → W p l e R s m args below meth c H locs cells slots Q (F0 m (pc + 3) ls rest)) : W p l e R s m args below meth c H locs cells slots Q (F0 m pc ls (.int x :: .ref (ad 43) :: rest)) := va_put (D := D) (ci := 4) (v := .int x) (ty := .int) (C := RX4) (T := TX4) (N := 10) X.1 X.2.1 X.2.2.1 wu_X4 tyX4 tyX4_ok nmX4 X.2.2.2.1 X.2.2.2.2 w.1 w.2.1 w.2.2.1 43 rfl rfl 8 (by decide) (X.2.2.1 _ wf_X4_8) (fun _ h => h) rfl (by decide +kernel) rfl rfl (Nat.le_of_ble_eq_true rfl) hd (fun H1 locs1 hP hD hS => kk H1 locs1 ⟨hP, hD, hS, w.2.2.2⟩)
theorem gtC_43_9 (X : px_X D (tyC cs) p s m args c cc RX4) (w : px_H D (wC cs ad) A H0 M H locs) (hd : decode cc pc = .ok (.getfield 41, 3)) (kk : W p l e R s m args below meth c H locs cells slots Q (F0 m (pc + 3) ls (.int (M 43 9) :: rest))) : W p l e R s m args below meth c H locs cells slots Q (F0 m pc ls (.ref (ad 43) :: rest)) := va_get (D := D) (ci := 4) (C := RX4) (T := TX4) (N := 10) X.1 X.2.1 X.2.2.1 wu_X4 X.2.2.2.1 X.2.2.2.2 w.1 43 rfl rfl 9 (by decide) (X.2.2.1 _ wf_X4_9) (fun _ h => h) rfl hd kk
theorem ptC_43_9 (X : px_X D (tyC cs) p s m args c cc RX4) (w : px_H D (wC cs ad) A H0 M H locs) (hd : decode cc pc = .ok (.putfield 41, 3)) (kk : ∀ (H : Heap) (locs : List Loc), px_H D (wC cs ad) A H0 (px_up M 43 9 x) H locs → W p l e R s m args below meth c H locs cells slots Q (F0 m (pc + 3) ls rest)) : W p l e R s m args below meth c H locs cells slots Q (F0 m pc ls (.int x :: .ref (ad 43) :: rest)) := va_put (D := D) (ci := 4) (v := .int x) (ty := .int) (C := RX4) (T := TX4) (N := 10) X.1 X.2.1 X.2.2.1 wu_X4 tyX4 tyX4_ok nmX4 X.2.2.2.1 X.2.2.2.2 w.1 w.2.1 w.2.2.1 43 rfl rfl 9 (by decide) (X.2.2.1 _ wf_X4_9) (fun _ h => h) rfl (by decide +kernel) rfl rfl (Nat.le_of_ble_eq_true rfl) hd (fun H1 locs1 hP hD hS => kk H1 locs1 ⟨hP, hD, hS, w.2.2.2⟩)
theorem ilC_44 {own : String} (X : px_X D (tyC cs) p s m args c cc own) (w : px_H D (wC cs ad) A H0 M H locs) (hi : vp_in i 12) (hd : decode cc pc = .ok (.iaload, 1)) (kk : W p l e R s m args below meth c H locs cells slots Q (F0 m (pc + 1) ls (.int (M 44 i.toNatClampNeg) :: rest))) : W p l e R s m args below meth c H locs cells slots Q (F0 m pc ls (.int i :: .ref (ad 44) :: rest)) := va_iald X.1 X.2.1 X.2.2.2.2 w.1 44 0 rfl rfl hi hd kk
theorem isC_44 {own : String} (X : px_X D (tyC cs) p s m args c cc own) (w : px_H D (wC cs ad) A H0 M H locs) (hi : vp_in i 12) (hd : decode cc pc = .ok (.iastore, 1)) (kk : ∀ (H : Heap) (locs : List Loc), px_H D (wC cs ad) A H0 (px_up M 44 i.toNatClampNeg x) H locs → W p l e R s m args below meth c H locs cells slots Q (F0 m (pc + 1) ls rest)) : W p l e R s m args below meth c H locs cells slots Q (F0 m pc ls (.int x :: .int i :: .ref (ad 44) :: rest)) := va_iast X.1 X.2.1 X.2.2.2.2 w.1 w.2.1 w.2.2.1 44 0 rfl rfl hi hd (fun H1 locs1 hP hD hS => kk H1 locs1 ⟨hP, hD, hS, w.2.2.2⟩)
theorem ilC_45 {own : String} (X : px_X D (tyC cs) p s m args c cc own) (w : px_H D (wC cs ad) A H0 M H locs) (hi : vp_in i 12) (hd : decode cc pc = .ok (.iaload, 1)) (kk : W p l e R s m args below meth c H locs cells slots Q (F0 m (pc + 1) ls (.int (M 45 i.toNatClampNeg) :: rest))) : W p l e R s m args below meth c H locs cells slots Q (F0 m pc ls (.int i :: .ref (ad 45) :: rest)) := va_iald X.1 X.2.1 X.2.2.2.2 w.1 45 0 rfl rfl hi hd kk
theorem isC_45 {own : String} (X : px_X D (tyC cs) p s m args c cc own) (w : px_H D (wC cs ad) A H0 M H locs) (hi : vp_in i 12) (hd : decode cc pc = .ok (.iastore, 1)) (kk : ∀ (H : Heap) (locs : List Loc), px_H D (wC cs ad) A H0 (px_up M 45 i.toNatClampNeg x) H locs → W p l e R s m args below meth c H locs cells slots Q (F0 m (pc + 1) ls rest)) : W p l e R s m args below meth c H locs cells slots Q (F0 m pc ls (.int x :: .int i :: .ref (ad 45) :: rest)) := va_iast X.1 X.2.1 X.2.2.2.2 w.1 w.2.1 w.2.2.1 45 0 rfl rfl hi hd (fun H1 locs1 hP hD hS => kk H1 locs1 ⟨hP, hD, hS, w.2.2.2⟩)
theorem ilC_46 {own : String} (X : px_X D (tyC cs) p s m args c cc own) (w : px_H D (wC cs ad) A H0 M H locs) (hi : vp_in i 12) (hd : decode cc pc = .ok (.iaload, 1)) (kk : W p l e R s m args below meth c H locs cells slots Q (F0 m (pc + 1) ls (.int (M 46 i.toNatClampNeg) :: rest))) : W p l e R s m args below meth c H locs cells slots Q (F0 m pc ls (.int i :: .ref (ad 46) :: rest)) := va_iald X.1 X.2.1 X.2.2.2.2 w.1 46 0 rfl rfl hi hd kk
theorem isC_46 {own : String} (X : px_X D (tyC cs) p s m args c cc own) (w : px_H D (wC cs ad) A H0 M H locs) (hi : vp_in i 12) (hd : decode cc pc = .ok (.iastore, 1)) (kk : ∀ (H : Heap) (locs : List Loc), px_H D (wC cs ad) A H0 (px_up M 46 i.toNatClampNeg x) H locs → W p l e R s m args below meth c H locs cells slots Q (F0 m (pc + 1) ls rest)) : W p l e R s m args below meth c H locs cells slots Q (F0 m pc ls (.int x :: .int i :: .ref (ad 46) :: rest)) := va_iast X.1 X.2.1 X.2.2.2.2 w.1 w.2.1 w.2.2.1 46 0 rfl rfl hi hd (fun H1 locs1 hP hD hS => kk H1 locs1 ⟨hP, hD, hS, w.2.2.2⟩)
theorem ilC_47 {own : String} (X : px_X D (tyC cs) p s m args c cc own) (w : px_H D (wC cs ad) A H0 M H locs) (hi : vp_in i 12) (hd : decode cc pc = .ok (.iaload, 1)) (kk : W p l e R s m args below meth c H locs cells slots Q (F0 m (pc + 1) ls (.int (M 47 i.toNatClampNeg) :: rest))) : W p l e R s m args below meth c H locs cells slots Q (F0 m pc ls (.int i :: .ref (ad 47) :: rest)) := va_iald X.1 X.2.1 X.2.2.2.2 w.1 47 0 rfl rfl hi hd kk
theorem isC_47 {own : String} (X : px_X D (tyC cs) p s m args c cc own) (w : px_H D (wC cs ad) A H0 M H locs) (hi : vp_in i 12) (hd : decode cc pc = .ok (.iastore, 1)) (kk : ∀ (H : Heap) (locs : List Loc), px_H D (wC cs ad) A H0 (px_up M 47 i.toNatClampNeg x) H locs → W p l e R s m args below meth c H locs cells slots Q (F0 m (pc + 1) ls rest)) : W p l e R s m args below meth c H locs cells slots Q (F0 m pc ls (.int x :: .int i :: .ref (ad 47) :: rest)) := va_iast X.1 X.2.1 X.2.2.2.2 w.1 w.2.1 w.2.2.1 47 0 rfl rfl hi hd (fun H1 locs1 hP hD hS => kk H1 locs1 ⟨hP, hD, hS, w.2.2.2⟩)
theorem ilC_48 {own : String} (X : px_X D (tyC cs) p s m args c cc own) (w : px_H D (wC cs ad) A H0 M H locs) (hi : vp_in i 12) (hd : decode cc pc = .ok (.iaload, 1)) (kk : W p l e R s m args below meth c H locs cells slots Q (F0 m (pc + 1) ls (.int (M 48 i.toNatClampNeg) :: rest))) : W p l e R s m args below meth c H locs cells slots Q (F0 m pc ls (.int i :: .ref (ad 48) :: rest)) := va_iald X.1 X.2.1 X.2.2.2.2 w.1 48 0 rfl rfl hi hd kk
theorem isC_48 {own : String} (X : px_X D (tyC cs) p s m args c cc own) (w : px_H D (wC cs ad) A H0 M H locs) (hi : vp_in i 12) (hd : decode cc pc = .ok (.iastore, 1)) (kk : ∀ (H : Heap) (locs : List Loc), px_H D (wC cs ad) A H0 (px_up M 48 i.toNatClampNeg x) H locs → W p l e R s m args below meth c H locs cells slots Q (F0 m (pc + 1) ls rest)) : W p l e R s m args below meth c H locs cells slots Q (F0 m pc ls (.int x :: .int i :: .ref (ad 48) :: rest)) := va_iast X.1 X.2.1 X.2.2.2.2 w.1 w.2.1 w.2.2.1 48 0 rfl rfl hi hd (fun H1 locs1 hP hD hS => kk H1 locs1 ⟨hP, hD, hS, w.2.2.2⟩)
theorem ilC_49 {own : String} (X : px_X D (tyC cs) p s m args c cc own) (w : px_H D (wC cs ad) A H0 M H locs) (hi : vp_in i 12) (hd : decode cc pc = .ok (.iaload, 1)) (kk : W p l e R s m args below meth c H locs cells slots Q (F0 m (pc + 1) ls (.int (M 49 i.toNatClampNeg) :: rest))) : W p l e R s m args below meth c H locs cells slots Q (F0 m pc ls (.int i :: .ref (ad 49) :: rest)) := va_iald X.1 X.2.1 X.2.2.2.2 w.1 49 0 rfl rfl hi hd kk
theorem isC_49 {own : String} (X : px_X D (tyC cs) p s m args c cc own) (w : px_H D (wC cs ad) A H0 M H locs) (hi : vp_in i 12) (hd : decode cc pc = .ok (.iastore, 1)) (kk : ∀ (H : Heap) (locs : List Loc), px_H D (wC cs ad) A H0 (px_up M 49 i.toNatClampNeg x) H locs → W p l e R s m args below meth c H locs cells slots Q (F0 m (pc + 1) ls rest)) : W p l e R s m args below meth c H locs cells slots Q (F0 m pc ls (.int x :: .int i :: .ref (ad 49) :: rest)) := va_iast X.1 X.2.1 X.2.2.2.2 w.1 w.2.1 w.2.2.1 49 0 rfl rfl hi hd (fun H1 locs1 hP hD hS => kk H1 locs1 ⟨hP, hD, hS, w.2.2.2⟩)
theorem ilC_50 {own : String} (X : px_X D (tyC cs) p s m args c cc own) (w : px_H D (wC cs ad) A H0 M H locs) (hi : vp_in i 12) (hd : decode cc pc = .ok (.baload, 1)) (kk : W p l e R s m args below meth c H locs cells slots Q (F0 m (pc + 1) ls (.int (M 50 i.toNatClampNeg) :: rest))) : W p l e R s m args below meth c H locs cells slots Q (F0 m pc ls (.int i :: .ref (ad 50) :: rest)) := va_zald X.1 X.2.1 X.2.2.2.2 w.1 50 1 rfl rfl hi hd kk
theorem isC_50 {own : String} (X : px_X D (tyC cs) p s m args c cc own) (w : px_H D (wC cs ad) A H0 M H locs) (hi : vp_in i 12) (hz : narrow .boolean (.int x) = .int x) (hd : decode cc pc = .ok (.bastore, 1)) (kk : ∀ (H : Heap) (locs : List Loc), px_H D (wC cs ad) A H0 (px_up M 50 i.toNatClampNeg x) H locs → W p l e R s m args below meth c H locs cells slots Q (F0 m (pc + 1) ls rest)) : W p l e R s m args below meth c H locs cells slots Q (F0 m pc ls (.int x :: .int i :: .ref (ad 50) :: rest)) := by
  have hv : vp_nar .boolean x = x := by unfold vp_nar; rw [hz]
  refine va_zast X.1 X.2.1 X.2.2.2.2 w.1 w.2.1 w.2.2.1 50 1 rfl rfl hi hd (fun H1 locs1 hP hD hS => ?_)
  rw [hv] at hP hD
  exact kk H1 locs1 ⟨hP, hD, hS, w.2.2.2⟩
theorem ilC_51 {own : String} (X : px_X D (tyC cs) p s m args c cc own) (w : px_H D (wC cs ad) A H0 M H locs) (hi : vp_in i 12) (hd : decode cc pc = .ok (.baload, 1)) (kk : W p l e R s m args below meth c H locs cells slots Q (F0 m (pc + 1) ls (.int (M 51 i.toNatClampNeg) :: rest))) : W p l e R s m args below meth c H locs cells slots Q (F0 m pc ls (.int i :: .ref (ad 51) :: rest)) := va_zald X.1 X.2.1 X.2.2.2.2 w.1 51 1 rfl rfl hi hd kk
theorem isC_51 {own : String} (X : px_X D (tyC cs) p s m args c cc own) (w : px_H D (wC cs ad) A H0 M H locs) (hi : vp_in i 12) (hz : narrow .boolean (.int x) = .int x) (hd : decode cc pc = .ok (.bastore, 1)) (kk : ∀ (H : Heap) (locs : List Loc), px_H D (wC cs ad) A H0 (px_up M 51 i.toNatClampNeg x) H locs → W p l e R s m args below meth c H locs cells slots Q (F0 m (pc + 1) ls rest)) : W p l e R s m args below meth c H locs cells slots Q (F0 m pc ls (.int x :: .int i :: .ref (ad 51) :: rest)) := by
  have hv : vp_nar .boolean x = x := by unfold vp_nar; rw [hz]
  refine va_zast X.1 X.2.1 X.2.2.2.2 w.1 w.2.1 w.2.2.1 51 1 rfl rfl hi hd (fun H1 locs1 hP hD hS => ?_)
  rw [hv] at hP hD
  exact kk H1 locs1 ⟨hP, hD, hS, w.2.2.2⟩
end PXCC
end
section
theorem px_ne {x c : Int32} {v : Int} (hv : c.toInt = v) (n : ¬ x = c) : x.toInt ≠ v := fun h => n (Int32.toInt_inj.mp (h.trans hv.symm))
end
section
def fC_Functions_length (M : px_M) (p1 : Int32) : Option Int32 := px_ck p1 10 (some (M 2 p1.toNatClampNeg))
set_option maxHeartbeats 4000000 in
set_option maxRecDepth 100000 in
theorem cC_Functions_length (l : Launch) (D : va_G) (cs : Nat → ClassId) (ad : Nat → Nat) {M : px_M} {p1 : Int32} {r : Int32} (hf : fC_Functions_length M p1 = some r) : px_mI l D (tyC cs) (wC cs ad) yX0_length cX0_length 2 (some .int) 0 [.ref (ad 1), .int p1] M r M := by
  refine px_ofI (by decide +kernel) (Nat.le_of_ble_eq_true rfl) ?_
  intro p e s m below meth c A ls X hr hlk hml w hl
  have hl : lv_has ls 2 [(0, .ref (ad 1)), (1, .int p1)] := hl
  unfold fC_Functions_length at hf
  refine lv_aload_n X.1 X.2.1 dX0_length_0 rfl (lv_at hl 0 rfl) ?_
  refine gtC_1_0 X w dX0_length_1 ?_
  refine lv_iload_n X.1 X.2.1 dX0_length_4 rfl (lv_at hl 1 rfl) ?_
  obtain ⟨b1, hf⟩ := px_ck_e hf
  refine ilC_2 X w b1 dX0_length_5 ?_
  cases hf
  exact px_retI X hr hlk w dX0_length_6
def fC_Functions_code (M : px_M) (p1 p2 : Int32) : Option Int32 := px_ck ((p1 * (6 : Int32)) + p2) 60 (some (M 3 ((p1 * (6 : Int32)) + p2).toNatClampNeg))
set_option maxHeartbeats 4000000 in
set_option maxRecDepth 100000 in
theorem cC_Functions_code (l : Launch) (D : va_G) (cs : Nat → ClassId) (ad : Nat → Nat) {M : px_M} {p1 p2 : Int32} {r : Int32} (hf : fC_Functions_code M p1 p2 = some r) : px_mI l D (tyC cs) (wC cs ad) yX0_code cX0_code 3 (some .int) 0 [.ref (ad 1), .int p1, .int p2] M r M := by
  refine px_ofI (by decide +kernel) (Nat.le_of_ble_eq_true rfl) ?_
  intro p e s m below meth c A ls X hr hlk hml w hl
  have hl : lv_has ls 3 [(0, .ref (ad 1)), (1, .int p1), (2, .int p2)] := hl
  unfold fC_Functions_code at hf
  refine lv_aload_n X.1 X.2.1 dX0_code_0 rfl (lv_at hl 0 rfl) ?_
  refine gtC_1_1 X w dX0_code_1 ?_
  refine lv_iload_n X.1 X.2.1 dX0_code_4 rfl (lv_at hl 1 rfl) ?_
  refine lv_bipush (v := (6 : Int32)) X.1 X.2.1 dX0_code_5 (by decide) ?_
  refine lv_imul X.1 X.2.1 dX0_code_7 ?_
  refine lv_iload_n X.1 X.2.1 dX0_code_8 rfl (lv_at hl 2 rfl) ?_
  refine lv_iadd X.1 X.2.1 dX0_code_9 ?_
  obtain ⟨b1, hf⟩ := px_ck_e hf
  refine ilC_3 X w b1 dX0_code_10 ?_
  cases hf
  exact px_retI X hr hlk w dX0_code_11
def fC_Functions_a (M : px_M) (p1 p2 : Int32) : Option Int32 := px_ck ((p1 * (6 : Int32)) + p2) 60 (some (M 4 ((p1 * (6 : Int32)) + p2).toNatClampNeg))
set_option maxHeartbeats 4000000 in
set_option maxRecDepth 100000 in
theorem cC_Functions_a (l : Launch) (D : va_G) (cs : Nat → ClassId) (ad : Nat → Nat) {M : px_M} {p1 p2 : Int32} {r : Int32} (hf : fC_Functions_a M p1 p2 = some r) : px_mI l D (tyC cs) (wC cs ad) yX0_a cX0_a 3 (some .int) 0 [.ref (ad 1), .int p1, .int p2] M r M := by
  refine px_ofI (by decide +kernel) (Nat.le_of_ble_eq_true rfl) ?_
  intro p e s m below meth c A ls X hr hlk hml w hl
  have hl : lv_has ls 3 [(0, .ref (ad 1)), (1, .int p1), (2, .int p2)] := hl
  unfold fC_Functions_a at hf
  refine lv_aload_n X.1 X.2.1 dX0_a_0 rfl (lv_at hl 0 rfl) ?_
  refine gtC_1_2 X w dX0_a_1 ?_
  refine lv_iload_n X.1 X.2.1 dX0_a_4 rfl (lv_at hl 1 rfl) ?_
  refine lv_bipush (v := (6 : Int32)) X.1 X.2.1 dX0_a_5 (by decide) ?_
  refine lv_imul X.1 X.2.1 dX0_a_7 ?_
  refine lv_iload_n X.1 X.2.1 dX0_a_8 rfl (lv_at hl 2 rfl) ?_
  refine lv_iadd X.1 X.2.1 dX0_a_9 ?_
  obtain ⟨b1, hf⟩ := px_ck_e hf
  refine ilC_4 X w b1 dX0_a_10 ?_
  cases hf
  exact px_retI X hr hlk w dX0_a_11
def fC_Functions_b (M : px_M) (p1 p2 : Int32) : Option Int32 := px_ck ((p1 * (6 : Int32)) + p2) 60 (some (M 5 ((p1 * (6 : Int32)) + p2).toNatClampNeg))
set_option maxHeartbeats 4000000 in
set_option maxRecDepth 100000 in
theorem cC_Functions_b (l : Launch) (D : va_G) (cs : Nat → ClassId) (ad : Nat → Nat) {M : px_M} {p1 p2 : Int32} {r : Int32} (hf : fC_Functions_b M p1 p2 = some r) : px_mI l D (tyC cs) (wC cs ad) yX0_b cX0_b 3 (some .int) 0 [.ref (ad 1), .int p1, .int p2] M r M := by
  refine px_ofI (by decide +kernel) (Nat.le_of_ble_eq_true rfl) ?_
  intro p e s m below meth c A ls X hr hlk hml w hl
  have hl : lv_has ls 3 [(0, .ref (ad 1)), (1, .int p1), (2, .int p2)] := hl
  unfold fC_Functions_b at hf
  refine lv_aload_n X.1 X.2.1 dX0_b_0 rfl (lv_at hl 0 rfl) ?_
  refine gtC_1_3 X w dX0_b_1 ?_
  refine lv_iload_n X.1 X.2.1 dX0_b_4 rfl (lv_at hl 1 rfl) ?_
  refine lv_bipush (v := (6 : Int32)) X.1 X.2.1 dX0_b_5 (by decide) ?_
  refine lv_imul X.1 X.2.1 dX0_b_7 ?_
  refine lv_iload_n X.1 X.2.1 dX0_b_8 rfl (lv_at hl 2 rfl) ?_
  refine lv_iadd X.1 X.2.1 dX0_b_9 ?_
  obtain ⟨b1, hf⟩ := px_ck_e hf
  refine ilC_5 X w b1 dX0_b_10 ?_
  cases hf
  exact px_retI X hr hlk w dX0_b_11
def fC_Functions_empty (M : px_M) (p1 : Int32) : Option px_M := px_ck p1 10 (px_bn (px_up M 2 p1.toNatClampNeg (0 : Int32)) (fun M2 => some M2))
set_option maxHeartbeats 4000000 in
set_option maxRecDepth 100000 in
theorem cC_Functions_empty (l : Launch) (D : va_G) (cs : Nat → ClassId) (ad : Nat → Nat) {M : px_M} {p1 : Int32} {M' : px_M} (hf : fC_Functions_empty M p1 = some M') : px_mV l D (tyC cs) (wC cs ad) yX0_empty cX0_empty 2 0 [.ref (ad 1), .int p1] M M' := by
  refine px_ofV (by decide +kernel) (Nat.le_of_ble_eq_true rfl) ?_
  intro p e s m below meth c A ls X hr hlk hml w hl
  have hl : lv_has ls 2 [(0, .ref (ad 1)), (1, .int p1)] := hl
  unfold fC_Functions_empty at hf
  refine lv_aload_n X.1 X.2.1 dX0_empty_0 rfl (lv_at hl 0 rfl) ?_
  refine gtC_1_0 X w dX0_empty_1 ?_
  refine lv_iload_n X.1 X.2.1 dX0_empty_4 rfl (lv_at hl 1 rfl) ?_
  refine lv_iconst (v := (0 : Int32)) X.1 X.2.1 dX0_empty_5 (by decide) ?_
  obtain ⟨b1, hf⟩ := px_ck_e hf
  refine isC_2 X w b1 dX0_empty_6 (fun H locs w => ?_)
  obtain ⟨M2, eM2, hf⟩ := px_bn_e hf
  rw [← eM2] at w
  cases hf
  exact px_retV X hr hlk w dX0_empty_7
def fC_Functions_add (M : px_M) (p1 p2 p3 p4 : Int32) : Option px_M := px_ck p1 10 ((if (M 2 p1.toNatClampNeg) < (6 : Int32) then px_ck p1 10 (px_bn (((p1 * (6 : Int32)) + (M 2 p1.toNatClampNeg))) (fun x4 => px_ck x4 60 (px_bn (px_up M 3 x4.toNatClampNeg p2) (fun M6 => px_ck x4 60 (px_bn (px_up M6 4 x4.toNatClampNeg p3) (fun M8 => px_ck x4 60 (px_bn (px_up M8 5 x4.toNatClampNeg p4) (fun M10 => px_ck p1 10 (px_ck p1 10 (px_bn (px_up M10 2 p1.toNatClampNeg ((M10 2 p1.toNatClampNeg) + (1 : Int32))) (fun M13 => some M13))))))))))) else some M))
set_option maxHeartbeats 4000000 in
set_option maxRecDepth 100000 in
theorem cC_Functions_add (l : Launch) (D : va_G) (cs : Nat → ClassId) (ad : Nat → Nat) {M : px_M} {p1 p2 p3 p4 : Int32} {M' : px_M} (hf : fC_Functions_add M p1 p2 p3 p4 = some M') : px_mV l D (tyC cs) (wC cs ad) yX0_add cX0_add 6 0 [.ref (ad 1), .int p1, .int p2, .int p3, .int p4] M M' := by
  refine px_ofV (by decide +kernel) (Nat.le_of_ble_eq_true rfl) ?_
  intro p e s m below meth c A ls X hr hlk hml w hl
  have hl : lv_has ls 6 [(0, .ref (ad 1)), (1, .int p1), (2, .int p2), (3, .int p3), (4, .int p4)] := hl
  unfold fC_Functions_add at hf
  refine lv_aload_n X.1 X.2.1 dX0_add_0 rfl (lv_at hl 0 rfl) ?_
  refine gtC_1_0 X w dX0_add_1 ?_
  refine lv_iload_n X.1 X.2.1 dX0_add_4 rfl (lv_at hl 1 rfl) ?_
  obtain ⟨b1, hf⟩ := px_ck_e hf
  refine ilC_2 X w b1 dX0_add_5 ?_
  refine lv_bipush (v := (6 : Int32)) X.1 X.2.1 dX0_add_6 (by decide) ?_
  refine lv_icmp_lt (tgt := 12) X.1 X.2.1 dX0_add_8 (by decide) (fun c2 => ?_) (fun c2 => ?_)
  · have hf := px_ip c2 hf
    refine lv_iload_n X.1 X.2.1 dX0_add_12 rfl (lv_at hl 1 rfl) ?_
    refine lv_bipush (v := (6 : Int32)) X.1 X.2.1 dX0_add_13 (by decide) ?_
    refine lv_imul X.1 X.2.1 dX0_add_15 ?_
    refine lv_aload_n X.1 X.2.1 dX0_add_16 rfl (lv_at hl 0 rfl) ?_
    refine gtC_1_0 X w dX0_add_17 ?_
    refine lv_iload_n X.1 X.2.1 dX0_add_20 rfl (lv_at hl 1 rfl) ?_
    obtain ⟨b3, hf⟩ := px_ck_e hf
    refine ilC_2 X w b3 dX0_add_21 ?_
    refine lv_iadd X.1 X.2.1 dX0_add_22 ?_
    obtain ⟨x4, ex4, hf⟩ := px_bn_e hf
    rw [← ex4]
    refine lv_istore (lv' := [(5, .int x4), (0, .ref (ad 1)), (1, .int p1), (2, .int p2), (3, .int p3), (4, .int p4)]) X.1 X.2.1 dX0_add_23 hl (by decide) rfl (fun ls hl => ?_)
    refine lv_aload_n X.1 X.2.1 dX0_add_25 rfl (lv_at hl 1 rfl) ?_
    refine gtC_1_1 X w dX0_add_26 ?_
    refine lv_iload X.1 X.2.1 dX0_add_29 (lv_at hl 0 rfl) ?_
    refine lv_iload_n X.1 X.2.1 dX0_add_31 rfl (lv_at hl 3 rfl) ?_
    obtain ⟨b5, hf⟩ := px_ck_e hf
    refine isC_3 X w b5 dX0_add_32 (fun H locs w => ?_)
    obtain ⟨M6, eM6, hf⟩ := px_bn_e hf
    rw [← eM6] at w
    refine lv_aload_n X.1 X.2.1 dX0_add_33 rfl (lv_at hl 1 rfl) ?_
    refine gtC_1_2 X w dX0_add_34 ?_
    refine lv_iload X.1 X.2.1 dX0_add_37 (lv_at hl 0 rfl) ?_
    refine lv_iload_n X.1 X.2.1 dX0_add_39 rfl (lv_at hl 4 rfl) ?_
    obtain ⟨b7, hf⟩ := px_ck_e hf
    refine isC_4 X w b7 dX0_add_40 (fun H locs w => ?_)
    obtain ⟨M8, eM8, hf⟩ := px_bn_e hf
    rw [← eM8] at w
    refine lv_aload_n X.1 X.2.1 dX0_add_41 rfl (lv_at hl 1 rfl) ?_
    refine gtC_1_3 X w dX0_add_42 ?_
    refine lv_iload X.1 X.2.1 dX0_add_45 (lv_at hl 0 rfl) ?_
    refine lv_iload X.1 X.2.1 dX0_add_47 (lv_at hl 5 rfl) ?_
    obtain ⟨b9, hf⟩ := px_ck_e hf
    refine isC_5 X w b9 dX0_add_49 (fun H locs w => ?_)
    obtain ⟨M10, eM10, hf⟩ := px_bn_e hf
    rw [← eM10] at w
    refine lv_aload_n X.1 X.2.1 dX0_add_50 rfl (lv_at hl 1 rfl) ?_
    refine gtC_1_0 X w dX0_add_51 ?_
    refine lv_iload_n X.1 X.2.1 dX0_add_54 rfl (lv_at hl 2 rfl) ?_
    refine lv_dup2_11 X.1 X.2.1 dX0_add_55 rfl rfl ?_
    obtain ⟨b11, hf⟩ := px_ck_e hf
    refine ilC_2 X w b11 dX0_add_56 ?_
    refine lv_iconst (v := (1 : Int32)) X.1 X.2.1 dX0_add_57 (by decide) ?_
    refine lv_iadd X.1 X.2.1 dX0_add_58 ?_
    obtain ⟨b12, hf⟩ := px_ck_e hf
    refine isC_2 X w b12 dX0_add_59 (fun H locs w => ?_)
    obtain ⟨M13, eM13, hf⟩ := px_bn_e hf
    rw [← eM13] at w
    cases hf
    exact px_retV X hr hlk w dX0_add_60
  · have hf := px_in c2 hf
    cases hf
    exact px_retV X hr hlk w dX0_add_11
def fC_Journal_size_28 (M : px_M) : Option Int32 := some (M 28 1)
set_option maxHeartbeats 4000000 in
set_option maxRecDepth 100000 in
theorem cC_Journal_size_28 (l : Launch) (D : va_G) (cs : Nat → ClassId) (ad : Nat → Nat) {M : px_M} {r : Int32} (hf : fC_Journal_size_28 M = some r) : px_mI l D (tyC cs) (wC cs ad) yX1_size cX1_size 1 (some .int) 0 [.ref (ad 28)] M r M := by
  refine px_ofI (by decide +kernel) (Nat.le_of_ble_eq_true rfl) ?_
  intro p e s m below meth c A ls X hr hlk hml w hl
  have hl : lv_has ls 1 [(0, .ref (ad 28))] := hl
  unfold fC_Journal_size_28 at hf
  refine lv_aload_n X.1 X.2.1 dX1_size_0 rfl (lv_at hl 0 rfl) ?_
  refine gtC_28_1 X w dX1_size_1 ?_
  cases hf
  exact px_retI X hr hlk w dX1_size_4
def fC_Journal_has_28 (M : px_M) (p1 : Int32) : Option Int32 := (if p1 < 0 then some (0 : Int32) else (if (M 28 1) ≤ p1 then some (0 : Int32) else some (1 : Int32)))
set_option maxHeartbeats 4000000 in
set_option maxRecDepth 100000 in
theorem cC_Journal_has_28 (l : Launch) (D : va_G) (cs : Nat → ClassId) (ad : Nat → Nat) {M : px_M} {p1 : Int32} {r : Int32} (hf : fC_Journal_has_28 M p1 = some r) : px_mI l D (tyC cs) (wC cs ad) yX1_has cX1_has 2 (some .boolean) 0 [.ref (ad 28), .int p1] M r M := by
  refine px_ofI (by decide +kernel) (Nat.le_of_ble_eq_true rfl) ?_
  intro p e s m below meth c A ls X hr hlk hml w hl
  have hl : lv_has ls 2 [(0, .ref (ad 28)), (1, .int p1)] := hl
  unfold fC_Journal_has_28 at hf
  refine lv_iload_n X.1 X.2.1 dX1_has_0 rfl (lv_at hl 1 rfl) ?_
  refine lv_if_lt (tgt := 16) X.1 X.2.1 dX1_has_1 (by decide) (fun c1 => ?_) (fun c1 => ?_)
  · have hf := px_ip c1 hf
    refine lv_iconst (v := (0 : Int32)) X.1 X.2.1 dX1_has_16 (by decide) ?_
    cases hf
    exact px_retZ X hr hlk narrow_b0 w dX1_has_17
  · have hf := px_in c1 hf
    refine lv_iload_n X.1 X.2.1 dX1_has_4 rfl (lv_at hl 1 rfl) ?_
    refine lv_aload_n X.1 X.2.1 dX1_has_5 rfl (lv_at hl 0 rfl) ?_
    refine gtC_28_1 X w dX1_has_6 ?_
    refine lv_icmp_ge (tgt := 16) X.1 X.2.1 dX1_has_9 (by decide) (fun c2 => ?_) (fun c2 => ?_)
    · have hf := px_ip c2 hf
      refine lv_iconst (v := (0 : Int32)) X.1 X.2.1 dX1_has_16 (by decide) ?_
      cases hf
      exact px_retZ X hr hlk narrow_b0 w dX1_has_17
    · have hf := px_in c2 hf
      refine lv_iconst (v := (1 : Int32)) X.1 X.2.1 dX1_has_12 (by decide) ?_
      refine lv_goto (tgt := 17) X.1 X.2.1 dX1_has_13 (by decide) ?_
      cases hf
      exact px_retZ X hr hlk narrow_b1 w dX1_has_17
def fC_Journal_at_28 (M : px_M) (p1 : Int32) : Option Int32 := px_ck p1 200 (some (M 29 p1.toNatClampNeg))
set_option maxHeartbeats 4000000 in
set_option maxRecDepth 100000 in
theorem cC_Journal_at_28 (l : Launch) (D : va_G) (cs : Nat → ClassId) (ad : Nat → Nat) {M : px_M} {p1 : Int32} {r : Int32} (hf : fC_Journal_at_28 M p1 = some r) : px_mI l D (tyC cs) (wC cs ad) yX1_at cX1_at 2 (some .int) 0 [.ref (ad 28), .int p1] M r M := by
  refine px_ofI (by decide +kernel) (Nat.le_of_ble_eq_true rfl) ?_
  intro p e s m below meth c A ls X hr hlk hml w hl
  have hl : lv_has ls 2 [(0, .ref (ad 28)), (1, .int p1)] := hl
  unfold fC_Journal_at_28 at hf
  refine lv_aload_n X.1 X.2.1 dX1_at_0 rfl (lv_at hl 0 rfl) ?_
  refine gtC_28_0 X w dX1_at_1 ?_
  refine lv_iload_n X.1 X.2.1 dX1_at_4 rfl (lv_at hl 1 rfl) ?_
  obtain ⟨b1, hf⟩ := px_ck_e hf
  refine ilC_29 X w b1 dX1_at_5 ?_
  cases hf
  exact px_retI X hr hlk w dX1_at_6
def fC_Journal_keep_28 (M : px_M) (p1 : Int32) : Option px_M := (if (200 : Int32) ≤ (M 28 1) then some M else px_ck (M 28 1) 200 (px_bn (px_up M 29 (M 28 1).toNatClampNeg p1) (fun M3 => px_bn (px_up M3 28 1 ((M3 28 1) + (1 : Int32))) (fun M4 => some M4))))
set_option maxHeartbeats 4000000 in
set_option maxRecDepth 100000 in
theorem cC_Journal_keep_28 (l : Launch) (D : va_G) (cs : Nat → ClassId) (ad : Nat → Nat) {M : px_M} {p1 : Int32} {M' : px_M} (hf : fC_Journal_keep_28 M p1 = some M') : px_mV l D (tyC cs) (wC cs ad) yX1_keep cX1_keep 2 0 [.ref (ad 28), .int p1] M M' := by
  refine px_ofV (by decide +kernel) (Nat.le_of_ble_eq_true rfl) ?_
  intro p e s m below meth c A ls X hr hlk hml w hl
  have hl : lv_has ls 2 [(0, .ref (ad 28)), (1, .int p1)] := hl
  unfold fC_Journal_keep_28 at hf
  refine lv_aload_n X.1 X.2.1 dX1_keep_0 rfl (lv_at hl 0 rfl) ?_
  refine gtC_28_1 X w dX1_keep_1 ?_
  refine lv_sipush (v := (200 : Int32)) X.1 X.2.1 dX1_keep_4 (by decide) ?_
  refine lv_icmp_ge (tgt := 30) X.1 X.2.1 dX1_keep_7 (by decide) (fun c1 => ?_) (fun c1 => ?_)
  · have hf := px_ip c1 hf
    cases hf
    exact px_retV X hr hlk w dX1_keep_30
  · have hf := px_in c1 hf
    refine lv_aload_n X.1 X.2.1 dX1_keep_10 rfl (lv_at hl 0 rfl) ?_
    refine gtC_28_0 X w dX1_keep_11 ?_
    refine lv_aload_n X.1 X.2.1 dX1_keep_14 rfl (lv_at hl 0 rfl) ?_
    refine gtC_28_1 X w dX1_keep_15 ?_
    refine lv_iload_n X.1 X.2.1 dX1_keep_18 rfl (lv_at hl 1 rfl) ?_
    obtain ⟨b2, hf⟩ := px_ck_e hf
    refine isC_29 X w b2 dX1_keep_19 (fun H locs w => ?_)
    obtain ⟨M3, eM3, hf⟩ := px_bn_e hf
    rw [← eM3] at w
    refine lv_aload_n X.1 X.2.1 dX1_keep_20 rfl (lv_at hl 0 rfl) ?_
    refine lv_dup X.1 X.2.1 dX1_keep_21 rfl ?_
    refine gtC_28_1 X w dX1_keep_22 ?_
    refine lv_iconst (v := (1 : Int32)) X.1 X.2.1 dX1_keep_25 (by decide) ?_
    refine lv_iadd X.1 X.2.1 dX1_keep_26 ?_
    refine ptC_28_1 X w dX1_keep_27 (fun H locs w => ?_)
    obtain ⟨M4, eM4, hf⟩ := px_bn_e hf
    rw [← eM4] at w
    cases hf
    exact px_retV X hr hlk w dX1_keep_30
def fC_Journal_size_30 (M : px_M) : Option Int32 := some (M 30 1)
set_option maxHeartbeats 4000000 in
set_option maxRecDepth 100000 in
theorem cC_Journal_size_30 (l : Launch) (D : va_G) (cs : Nat → ClassId) (ad : Nat → Nat) {M : px_M} {r : Int32} (hf : fC_Journal_size_30 M = some r) : px_mI l D (tyC cs) (wC cs ad) yX1_size cX1_size 1 (some .int) 0 [.ref (ad 30)] M r M := by
  refine px_ofI (by decide +kernel) (Nat.le_of_ble_eq_true rfl) ?_
  intro p e s m below meth c A ls X hr hlk hml w hl
  have hl : lv_has ls 1 [(0, .ref (ad 30))] := hl
  unfold fC_Journal_size_30 at hf
  refine lv_aload_n X.1 X.2.1 dX1_size_0 rfl (lv_at hl 0 rfl) ?_
  refine gtC_30_1 X w dX1_size_1 ?_
  cases hf
  exact px_retI X hr hlk w dX1_size_4
def fC_Journal_has_30 (M : px_M) (p1 : Int32) : Option Int32 := (if p1 < 0 then some (0 : Int32) else (if (M 30 1) ≤ p1 then some (0 : Int32) else some (1 : Int32)))
set_option maxHeartbeats 4000000 in
set_option maxRecDepth 100000 in
theorem cC_Journal_has_30 (l : Launch) (D : va_G) (cs : Nat → ClassId) (ad : Nat → Nat) {M : px_M} {p1 : Int32} {r : Int32} (hf : fC_Journal_has_30 M p1 = some r) : px_mI l D (tyC cs) (wC cs ad) yX1_has cX1_has 2 (some .boolean) 0 [.ref (ad 30), .int p1] M r M := by
  refine px_ofI (by decide +kernel) (Nat.le_of_ble_eq_true rfl) ?_
  intro p e s m below meth c A ls X hr hlk hml w hl
  have hl : lv_has ls 2 [(0, .ref (ad 30)), (1, .int p1)] := hl
  unfold fC_Journal_has_30 at hf
  refine lv_iload_n X.1 X.2.1 dX1_has_0 rfl (lv_at hl 1 rfl) ?_
  refine lv_if_lt (tgt := 16) X.1 X.2.1 dX1_has_1 (by decide) (fun c1 => ?_) (fun c1 => ?_)
  · have hf := px_ip c1 hf
    refine lv_iconst (v := (0 : Int32)) X.1 X.2.1 dX1_has_16 (by decide) ?_
    cases hf
    exact px_retZ X hr hlk narrow_b0 w dX1_has_17
  · have hf := px_in c1 hf
    refine lv_iload_n X.1 X.2.1 dX1_has_4 rfl (lv_at hl 1 rfl) ?_
    refine lv_aload_n X.1 X.2.1 dX1_has_5 rfl (lv_at hl 0 rfl) ?_
    refine gtC_30_1 X w dX1_has_6 ?_
    refine lv_icmp_ge (tgt := 16) X.1 X.2.1 dX1_has_9 (by decide) (fun c2 => ?_) (fun c2 => ?_)
    · have hf := px_ip c2 hf
      refine lv_iconst (v := (0 : Int32)) X.1 X.2.1 dX1_has_16 (by decide) ?_
      cases hf
      exact px_retZ X hr hlk narrow_b0 w dX1_has_17
    · have hf := px_in c2 hf
      refine lv_iconst (v := (1 : Int32)) X.1 X.2.1 dX1_has_12 (by decide) ?_
      refine lv_goto (tgt := 17) X.1 X.2.1 dX1_has_13 (by decide) ?_
      cases hf
      exact px_retZ X hr hlk narrow_b1 w dX1_has_17
def fC_Journal_at_30 (M : px_M) (p1 : Int32) : Option Int32 := px_ck p1 200 (some (M 31 p1.toNatClampNeg))
set_option maxHeartbeats 4000000 in
set_option maxRecDepth 100000 in
theorem cC_Journal_at_30 (l : Launch) (D : va_G) (cs : Nat → ClassId) (ad : Nat → Nat) {M : px_M} {p1 : Int32} {r : Int32} (hf : fC_Journal_at_30 M p1 = some r) : px_mI l D (tyC cs) (wC cs ad) yX1_at cX1_at 2 (some .int) 0 [.ref (ad 30), .int p1] M r M := by
  refine px_ofI (by decide +kernel) (Nat.le_of_ble_eq_true rfl) ?_
  intro p e s m below meth c A ls X hr hlk hml w hl
  have hl : lv_has ls 2 [(0, .ref (ad 30)), (1, .int p1)] := hl
  unfold fC_Journal_at_30 at hf
  refine lv_aload_n X.1 X.2.1 dX1_at_0 rfl (lv_at hl 0 rfl) ?_
  refine gtC_30_0 X w dX1_at_1 ?_
  refine lv_iload_n X.1 X.2.1 dX1_at_4 rfl (lv_at hl 1 rfl) ?_
  obtain ⟨b1, hf⟩ := px_ck_e hf
  refine ilC_31 X w b1 dX1_at_5 ?_
  cases hf
  exact px_retI X hr hlk w dX1_at_6
def fC_Journal_keep_30 (M : px_M) (p1 : Int32) : Option px_M := (if (200 : Int32) ≤ (M 30 1) then some M else px_ck (M 30 1) 200 (px_bn (px_up M 31 (M 30 1).toNatClampNeg p1) (fun M3 => px_bn (px_up M3 30 1 ((M3 30 1) + (1 : Int32))) (fun M4 => some M4))))
set_option maxHeartbeats 4000000 in
set_option maxRecDepth 100000 in
theorem cC_Journal_keep_30 (l : Launch) (D : va_G) (cs : Nat → ClassId) (ad : Nat → Nat) {M : px_M} {p1 : Int32} {M' : px_M} (hf : fC_Journal_keep_30 M p1 = some M') : px_mV l D (tyC cs) (wC cs ad) yX1_keep cX1_keep 2 0 [.ref (ad 30), .int p1] M M' := by
  refine px_ofV (by decide +kernel) (Nat.le_of_ble_eq_true rfl) ?_
  intro p e s m below meth c A ls X hr hlk hml w hl
  have hl : lv_has ls 2 [(0, .ref (ad 30)), (1, .int p1)] := hl
  unfold fC_Journal_keep_30 at hf
  refine lv_aload_n X.1 X.2.1 dX1_keep_0 rfl (lv_at hl 0 rfl) ?_
  refine gtC_30_1 X w dX1_keep_1 ?_
  refine lv_sipush (v := (200 : Int32)) X.1 X.2.1 dX1_keep_4 (by decide) ?_
  refine lv_icmp_ge (tgt := 30) X.1 X.2.1 dX1_keep_7 (by decide) (fun c1 => ?_) (fun c1 => ?_)
  · have hf := px_ip c1 hf
    cases hf
    exact px_retV X hr hlk w dX1_keep_30
  · have hf := px_in c1 hf
    refine lv_aload_n X.1 X.2.1 dX1_keep_10 rfl (lv_at hl 0 rfl) ?_
    refine gtC_30_0 X w dX1_keep_11 ?_
    refine lv_aload_n X.1 X.2.1 dX1_keep_14 rfl (lv_at hl 0 rfl) ?_
    refine gtC_30_1 X w dX1_keep_15 ?_
    refine lv_iload_n X.1 X.2.1 dX1_keep_18 rfl (lv_at hl 1 rfl) ?_
    obtain ⟨b2, hf⟩ := px_ck_e hf
    refine isC_31 X w b2 dX1_keep_19 (fun H locs w => ?_)
    obtain ⟨M3, eM3, hf⟩ := px_bn_e hf
    rw [← eM3] at w
    refine lv_aload_n X.1 X.2.1 dX1_keep_20 rfl (lv_at hl 0 rfl) ?_
    refine lv_dup X.1 X.2.1 dX1_keep_21 rfl ?_
    refine gtC_30_1 X w dX1_keep_22 ?_
    refine lv_iconst (v := (1 : Int32)) X.1 X.2.1 dX1_keep_25 (by decide) ?_
    refine lv_iadd X.1 X.2.1 dX1_keep_26 ?_
    refine ptC_30_1 X w dX1_keep_27 (fun H locs w => ?_)
    obtain ⟨M4, eM4, hf⟩ := px_bn_e hf
    rw [← eM4] at w
    cases hf
    exact px_retV X hr hlk w dX1_keep_30
def fC_Line_size_8 (M : px_M) : Option Int32 := some (M 8 5)
set_option maxHeartbeats 4000000 in
set_option maxRecDepth 100000 in
theorem cC_Line_size_8 (l : Launch) (D : va_G) (cs : Nat → ClassId) (ad : Nat → Nat) {M : px_M} {r : Int32} (hf : fC_Line_size_8 M = some r) : px_mI l D (tyC cs) (wC cs ad) yX2_size cX2_size 1 (some .int) 0 [.ref (ad 8)] M r M := by
  refine px_ofI (by decide +kernel) (Nat.le_of_ble_eq_true rfl) ?_
  intro p e s m below meth c A ls X hr hlk hml w hl
  have hl : lv_has ls 1 [(0, .ref (ad 8))] := hl
  unfold fC_Line_size_8 at hf
  refine lv_aload_n X.1 X.2.1 dX2_size_0 rfl (lv_at hl 0 rfl) ?_
  refine gtC_8_5 X w dX2_size_1 ?_
  cases hf
  exact px_retI X hr hlk w dX2_size_4
def fC_Line_kind_8 (M : px_M) : Option Int32 := px_ck (M 8 4) 40 (some (M 9 (M 8 4).toNatClampNeg))
set_option maxHeartbeats 4000000 in
set_option maxRecDepth 100000 in
theorem cC_Line_kind_8 (l : Launch) (D : va_G) (cs : Nat → ClassId) (ad : Nat → Nat) {M : px_M} {r : Int32} (hf : fC_Line_kind_8 M = some r) : px_mI l D (tyC cs) (wC cs ad) yX2_kind cX2_kind 1 (some .int) 0 [.ref (ad 8)] M r M := by
  refine px_ofI (by decide +kernel) (Nat.le_of_ble_eq_true rfl) ?_
  intro p e s m below meth c A ls X hr hlk hml w hl
  have hl : lv_has ls 1 [(0, .ref (ad 8))] := hl
  unfold fC_Line_kind_8 at hf
  refine lv_aload_n X.1 X.2.1 dX2_kind_0 rfl (lv_at hl 0 rfl) ?_
  refine gtC_8_1 X w dX2_kind_1 ?_
  refine lv_aload_n X.1 X.2.1 dX2_kind_4 rfl (lv_at hl 0 rfl) ?_
  refine gtC_8_4 X w dX2_kind_5 ?_
  obtain ⟨b1, hf⟩ := px_ck_e hf
  refine ilC_9 X w b1 dX2_kind_8 ?_
  cases hf
  exact px_retI X hr hlk w dX2_kind_9
def fC_Line_subject_8 (M : px_M) : Option Int32 := px_ck (M 8 4) 40 (some (M 10 (M 8 4).toNatClampNeg))
set_option maxHeartbeats 4000000 in
set_option maxRecDepth 100000 in
theorem cC_Line_subject_8 (l : Launch) (D : va_G) (cs : Nat → ClassId) (ad : Nat → Nat) {M : px_M} {r : Int32} (hf : fC_Line_subject_8 M = some r) : px_mI l D (tyC cs) (wC cs ad) yX2_subject cX2_subject 1 (some .int) 0 [.ref (ad 8)] M r M := by
  refine px_ofI (by decide +kernel) (Nat.le_of_ble_eq_true rfl) ?_
  intro p e s m below meth c A ls X hr hlk hml w hl
  have hl : lv_has ls 1 [(0, .ref (ad 8))] := hl
  unfold fC_Line_subject_8 at hf
  refine lv_aload_n X.1 X.2.1 dX2_subject_0 rfl (lv_at hl 0 rfl) ?_
  refine gtC_8_2 X w dX2_subject_1 ?_
  refine lv_aload_n X.1 X.2.1 dX2_subject_4 rfl (lv_at hl 0 rfl) ?_
  refine gtC_8_4 X w dX2_subject_5 ?_
  obtain ⟨b1, hf⟩ := px_ck_e hf
  refine ilC_10 X w b1 dX2_subject_8 ?_
  cases hf
  exact px_retI X hr hlk w dX2_subject_9
def fC_Line_number_8 (M : px_M) : Option Int32 := px_ck (M 8 4) 40 (some (M 11 (M 8 4).toNatClampNeg))
set_option maxHeartbeats 4000000 in
set_option maxRecDepth 100000 in
theorem cC_Line_number_8 (l : Launch) (D : va_G) (cs : Nat → ClassId) (ad : Nat → Nat) {M : px_M} {r : Int32} (hf : fC_Line_number_8 M = some r) : px_mI l D (tyC cs) (wC cs ad) yX2_number cX2_number 1 (some .int) 0 [.ref (ad 8)] M r M := by
  refine px_ofI (by decide +kernel) (Nat.le_of_ble_eq_true rfl) ?_
  intro p e s m below meth c A ls X hr hlk hml w hl
  have hl : lv_has ls 1 [(0, .ref (ad 8))] := hl
  unfold fC_Line_number_8 at hf
  refine lv_aload_n X.1 X.2.1 dX2_number_0 rfl (lv_at hl 0 rfl) ?_
  refine gtC_8_3 X w dX2_number_1 ?_
  refine lv_aload_n X.1 X.2.1 dX2_number_4 rfl (lv_at hl 0 rfl) ?_
  refine gtC_8_4 X w dX2_number_5 ?_
  obtain ⟨b1, hf⟩ := px_ck_e hf
  refine ilC_11 X w b1 dX2_number_8 ?_
  cases hf
  exact px_retI X hr hlk w dX2_number_9
def fC_Line_put_8 (M : px_M) (p1 p2 p3 : Int32) : Option px_M := (if (M 8 5) < (M 8 0) then (if (M 8 0) ≤ ((M 8 4) + (M 8 5)) then px_bn ((((M 8 4) + (M 8 5)) - (M 8 0))) (fun x3 => px_ck x3 40 (px_bn (px_up M 9 x3.toNatClampNeg p1) (fun M5 => px_ck x3 40 (px_bn (px_up M5 10 x3.toNatClampNeg p2) (fun M7 => px_ck x3 40 (px_bn (px_up M7 11 x3.toNatClampNeg p3) (fun M9 => px_bn (px_up M9 8 5 ((M9 8 5) + (1 : Int32))) (fun M10 => some M10)))))))) else px_bn (((M 8 4) + (M 8 5))) (fun x11 => px_ck x11 40 (px_bn (px_up M 9 x11.toNatClampNeg p1) (fun M13 => px_ck x11 40 (px_bn (px_up M13 10 x11.toNatClampNeg p2) (fun M15 => px_ck x11 40 (px_bn (px_up M15 11 x11.toNatClampNeg p3) (fun M17 => px_bn (px_up M17 8 5 ((M17 8 5) + (1 : Int32))) (fun M18 => some M18))))))))) else some M)
set_option maxHeartbeats 4000000 in
set_option maxRecDepth 100000 in
theorem cC_Line_put_8 (l : Launch) (D : va_G) (cs : Nat → ClassId) (ad : Nat → Nat) {M : px_M} {p1 p2 p3 : Int32} {M' : px_M} (hf : fC_Line_put_8 M p1 p2 p3 = some M') : px_mV l D (tyC cs) (wC cs ad) yX2_put cX2_put 5 0 [.ref (ad 8), .int p1, .int p2, .int p3] M M' := by
  refine px_ofV (by decide +kernel) (Nat.le_of_ble_eq_true rfl) ?_
  intro p e s m below meth c A ls X hr hlk hml w hl
  have hl : lv_has ls 5 [(0, .ref (ad 8)), (1, .int p1), (2, .int p2), (3, .int p3)] := hl
  unfold fC_Line_put_8 at hf
  refine lv_aload_n X.1 X.2.1 dX2_put_0 rfl (lv_at hl 0 rfl) ?_
  refine gtC_8_5 X w dX2_put_1 ?_
  refine lv_aload_n X.1 X.2.1 dX2_put_4 rfl (lv_at hl 0 rfl) ?_
  refine gtC_8_0 X w dX2_put_5 ?_
  refine lv_icmp_lt (tgt := 12) X.1 X.2.1 dX2_put_8 (by decide) (fun c1 => ?_) (fun c1 => ?_)
  · have hf := px_ip c1 hf
    refine lv_aload_n X.1 X.2.1 dX2_put_12 rfl (lv_at hl 0 rfl) ?_
    refine gtC_8_4 X w dX2_put_13 ?_
    refine lv_aload_n X.1 X.2.1 dX2_put_16 rfl (lv_at hl 0 rfl) ?_
    refine gtC_8_5 X w dX2_put_17 ?_
    refine lv_iadd X.1 X.2.1 dX2_put_20 ?_
    refine lv_aload_n X.1 X.2.1 dX2_put_21 rfl (lv_at hl 0 rfl) ?_
    refine gtC_8_0 X w dX2_put_22 ?_
    refine lv_icmp_ge (tgt := 40) X.1 X.2.1 dX2_put_25 (by decide) (fun c2 => ?_) (fun c2 => ?_)
    · have hf := px_ip c2 hf
      refine lv_aload_n X.1 X.2.1 dX2_put_40 rfl (lv_at hl 0 rfl) ?_
      refine gtC_8_4 X w dX2_put_41 ?_
      refine lv_aload_n X.1 X.2.1 dX2_put_44 rfl (lv_at hl 0 rfl) ?_
      refine gtC_8_5 X w dX2_put_45 ?_
      refine lv_iadd X.1 X.2.1 dX2_put_48 ?_
      refine lv_aload_n X.1 X.2.1 dX2_put_49 rfl (lv_at hl 0 rfl) ?_
      refine gtC_8_0 X w dX2_put_50 ?_
      refine lv_isub X.1 X.2.1 dX2_put_53 ?_
      obtain ⟨x3, ex3, hf⟩ := px_bn_e hf
      rw [← ex3]
      refine lv_istore (lv' := [(4, .int x3), (0, .ref (ad 8)), (1, .int p1), (2, .int p2), (3, .int p3)]) X.1 X.2.1 dX2_put_54 hl (by decide) rfl (fun ls hl => ?_)
      refine lv_aload_n X.1 X.2.1 dX2_put_56 rfl (lv_at hl 1 rfl) ?_
      refine gtC_8_1 X w dX2_put_57 ?_
      refine lv_iload X.1 X.2.1 dX2_put_60 (lv_at hl 0 rfl) ?_
      refine lv_iload_n X.1 X.2.1 dX2_put_62 rfl (lv_at hl 2 rfl) ?_
      obtain ⟨b4, hf⟩ := px_ck_e hf
      refine isC_9 X w b4 dX2_put_63 (fun H locs w => ?_)
      obtain ⟨M5, eM5, hf⟩ := px_bn_e hf
      rw [← eM5] at w
      refine lv_aload_n X.1 X.2.1 dX2_put_64 rfl (lv_at hl 1 rfl) ?_
      refine gtC_8_2 X w dX2_put_65 ?_
      refine lv_iload X.1 X.2.1 dX2_put_68 (lv_at hl 0 rfl) ?_
      refine lv_iload_n X.1 X.2.1 dX2_put_70 rfl (lv_at hl 3 rfl) ?_
      obtain ⟨b6, hf⟩ := px_ck_e hf
      refine isC_10 X w b6 dX2_put_71 (fun H locs w => ?_)
      obtain ⟨M7, eM7, hf⟩ := px_bn_e hf
      rw [← eM7] at w
      refine lv_aload_n X.1 X.2.1 dX2_put_72 rfl (lv_at hl 1 rfl) ?_
      refine gtC_8_3 X w dX2_put_73 ?_
      refine lv_iload X.1 X.2.1 dX2_put_76 (lv_at hl 0 rfl) ?_
      refine lv_iload_n X.1 X.2.1 dX2_put_78 rfl (lv_at hl 4 rfl) ?_
      obtain ⟨b8, hf⟩ := px_ck_e hf
      refine isC_11 X w b8 dX2_put_79 (fun H locs w => ?_)
      obtain ⟨M9, eM9, hf⟩ := px_bn_e hf
      rw [← eM9] at w
      refine lv_aload_n X.1 X.2.1 dX2_put_80 rfl (lv_at hl 1 rfl) ?_
      refine lv_dup X.1 X.2.1 dX2_put_81 rfl ?_
      refine gtC_8_5 X w dX2_put_82 ?_
      refine lv_iconst (v := (1 : Int32)) X.1 X.2.1 dX2_put_85 (by decide) ?_
      refine lv_iadd X.1 X.2.1 dX2_put_86 ?_
      refine ptC_8_5 X w dX2_put_87 (fun H locs w => ?_)
      obtain ⟨M10, eM10, hf⟩ := px_bn_e hf
      rw [← eM10] at w
      cases hf
      exact px_retV X hr hlk w dX2_put_90
    · have hf := px_in c2 hf
      refine lv_aload_n X.1 X.2.1 dX2_put_28 rfl (lv_at hl 0 rfl) ?_
      refine gtC_8_4 X w dX2_put_29 ?_
      refine lv_aload_n X.1 X.2.1 dX2_put_32 rfl (lv_at hl 0 rfl) ?_
      refine gtC_8_5 X w dX2_put_33 ?_
      refine lv_iadd X.1 X.2.1 dX2_put_36 ?_
      refine lv_goto (tgt := 54) X.1 X.2.1 dX2_put_37 (by decide) ?_
      obtain ⟨x11, ex11, hf⟩ := px_bn_e hf
      rw [← ex11]
      refine lv_istore (lv' := [(4, .int x11), (0, .ref (ad 8)), (1, .int p1), (2, .int p2), (3, .int p3)]) X.1 X.2.1 dX2_put_54 hl (by decide) rfl (fun ls hl => ?_)
      refine lv_aload_n X.1 X.2.1 dX2_put_56 rfl (lv_at hl 1 rfl) ?_
      refine gtC_8_1 X w dX2_put_57 ?_
      refine lv_iload X.1 X.2.1 dX2_put_60 (lv_at hl 0 rfl) ?_
      refine lv_iload_n X.1 X.2.1 dX2_put_62 rfl (lv_at hl 2 rfl) ?_
      obtain ⟨b12, hf⟩ := px_ck_e hf
      refine isC_9 X w b12 dX2_put_63 (fun H locs w => ?_)
      obtain ⟨M13, eM13, hf⟩ := px_bn_e hf
      rw [← eM13] at w
      refine lv_aload_n X.1 X.2.1 dX2_put_64 rfl (lv_at hl 1 rfl) ?_
      refine gtC_8_2 X w dX2_put_65 ?_
      refine lv_iload X.1 X.2.1 dX2_put_68 (lv_at hl 0 rfl) ?_
      refine lv_iload_n X.1 X.2.1 dX2_put_70 rfl (lv_at hl 3 rfl) ?_
      obtain ⟨b14, hf⟩ := px_ck_e hf
      refine isC_10 X w b14 dX2_put_71 (fun H locs w => ?_)
      obtain ⟨M15, eM15, hf⟩ := px_bn_e hf
      rw [← eM15] at w
      refine lv_aload_n X.1 X.2.1 dX2_put_72 rfl (lv_at hl 1 rfl) ?_
      refine gtC_8_3 X w dX2_put_73 ?_
      refine lv_iload X.1 X.2.1 dX2_put_76 (lv_at hl 0 rfl) ?_
      refine lv_iload_n X.1 X.2.1 dX2_put_78 rfl (lv_at hl 4 rfl) ?_
      obtain ⟨b16, hf⟩ := px_ck_e hf
      refine isC_11 X w b16 dX2_put_79 (fun H locs w => ?_)
      obtain ⟨M17, eM17, hf⟩ := px_bn_e hf
      rw [← eM17] at w
      refine lv_aload_n X.1 X.2.1 dX2_put_80 rfl (lv_at hl 1 rfl) ?_
      refine lv_dup X.1 X.2.1 dX2_put_81 rfl ?_
      refine gtC_8_5 X w dX2_put_82 ?_
      refine lv_iconst (v := (1 : Int32)) X.1 X.2.1 dX2_put_85 (by decide) ?_
      refine lv_iadd X.1 X.2.1 dX2_put_86 ?_
      refine ptC_8_5 X w dX2_put_87 (fun H locs w => ?_)
      obtain ⟨M18, eM18, hf⟩ := px_bn_e hf
      rw [← eM18] at w
      cases hf
      exact px_retV X hr hlk w dX2_put_90
  · have hf := px_in c1 hf
    cases hf
    exact px_retV X hr hlk w dX2_put_11
def fC_Line_drop_8 (M : px_M) : Option px_M := (if (M 8 5) ≤ 0 then some M else (if (M 8 0) ≤ ((M 8 4) + (1 : Int32)) then px_bn (px_up M 8 4 (0 : Int32)) (fun M3 => px_bn (px_up M3 8 5 ((M3 8 5) - (1 : Int32))) (fun M4 => some M4)) else px_bn (px_up M 8 4 ((M 8 4) + (1 : Int32))) (fun M5 => px_bn (px_up M5 8 5 ((M5 8 5) - (1 : Int32))) (fun M6 => some M6))))
set_option maxHeartbeats 4000000 in
set_option maxRecDepth 100000 in
theorem cC_Line_drop_8 (l : Launch) (D : va_G) (cs : Nat → ClassId) (ad : Nat → Nat) {M : px_M} {M' : px_M} (hf : fC_Line_drop_8 M = some M') : px_mV l D (tyC cs) (wC cs ad) yX2_drop cX2_drop 1 0 [.ref (ad 8)] M M' := by
  refine px_ofV (by decide +kernel) (Nat.le_of_ble_eq_true rfl) ?_
  intro p e s m below meth c A ls X hr hlk hml w hl
  have hl : lv_has ls 1 [(0, .ref (ad 8))] := hl
  unfold fC_Line_drop_8 at hf
  refine lv_aload_n X.1 X.2.1 dX2_drop_0 rfl (lv_at hl 0 rfl) ?_
  refine gtC_8_5 X w dX2_drop_1 ?_
  refine lv_if_le (tgt := 44) X.1 X.2.1 dX2_drop_4 (by decide) (fun c1 => ?_) (fun c1 => ?_)
  · have hf := px_ip c1 hf
    cases hf
    exact px_retV X hr hlk w dX2_drop_44
  · have hf := px_in c1 hf
    refine lv_aload_n X.1 X.2.1 dX2_drop_7 rfl (lv_at hl 0 rfl) ?_
    refine lv_aload_n X.1 X.2.1 dX2_drop_8 rfl (lv_at hl 0 rfl) ?_
    refine gtC_8_4 X w dX2_drop_9 ?_
    refine lv_iconst (v := (1 : Int32)) X.1 X.2.1 dX2_drop_12 (by decide) ?_
    refine lv_iadd X.1 X.2.1 dX2_drop_13 ?_
    refine lv_aload_n X.1 X.2.1 dX2_drop_14 rfl (lv_at hl 0 rfl) ?_
    refine gtC_8_0 X w dX2_drop_15 ?_
    refine lv_icmp_ge (tgt := 30) X.1 X.2.1 dX2_drop_18 (by decide) (fun c2 => ?_) (fun c2 => ?_)
    · have hf := px_ip c2 hf
      refine lv_iconst (v := (0 : Int32)) X.1 X.2.1 dX2_drop_30 (by decide) ?_
      refine ptC_8_4 X w dX2_drop_31 (fun H locs w => ?_)
      obtain ⟨M3, eM3, hf⟩ := px_bn_e hf
      rw [← eM3] at w
      refine lv_aload_n X.1 X.2.1 dX2_drop_34 rfl (lv_at hl 0 rfl) ?_
      refine lv_dup X.1 X.2.1 dX2_drop_35 rfl ?_
      refine gtC_8_5 X w dX2_drop_36 ?_
      refine lv_iconst (v := (1 : Int32)) X.1 X.2.1 dX2_drop_39 (by decide) ?_
      refine lv_isub X.1 X.2.1 dX2_drop_40 ?_
      refine ptC_8_5 X w dX2_drop_41 (fun H locs w => ?_)
      obtain ⟨M4, eM4, hf⟩ := px_bn_e hf
      rw [← eM4] at w
      cases hf
      exact px_retV X hr hlk w dX2_drop_44
    · have hf := px_in c2 hf
      refine lv_aload_n X.1 X.2.1 dX2_drop_21 rfl (lv_at hl 0 rfl) ?_
      refine gtC_8_4 X w dX2_drop_22 ?_
      refine lv_iconst (v := (1 : Int32)) X.1 X.2.1 dX2_drop_25 (by decide) ?_
      refine lv_iadd X.1 X.2.1 dX2_drop_26 ?_
      refine lv_goto (tgt := 31) X.1 X.2.1 dX2_drop_27 (by decide) ?_
      refine ptC_8_4 X w dX2_drop_31 (fun H locs w => ?_)
      obtain ⟨M5, eM5, hf⟩ := px_bn_e hf
      rw [← eM5] at w
      refine lv_aload_n X.1 X.2.1 dX2_drop_34 rfl (lv_at hl 0 rfl) ?_
      refine lv_dup X.1 X.2.1 dX2_drop_35 rfl ?_
      refine gtC_8_5 X w dX2_drop_36 ?_
      refine lv_iconst (v := (1 : Int32)) X.1 X.2.1 dX2_drop_39 (by decide) ?_
      refine lv_isub X.1 X.2.1 dX2_drop_40 ?_
      refine ptC_8_5 X w dX2_drop_41 (fun H locs w => ?_)
      obtain ⟨M6, eM6, hf⟩ := px_bn_e hf
      rw [← eM6] at w
      cases hf
      exact px_retV X hr hlk w dX2_drop_44
def fC_Line_size_12 (M : px_M) : Option Int32 := some (M 12 5)
set_option maxHeartbeats 4000000 in
set_option maxRecDepth 100000 in
theorem cC_Line_size_12 (l : Launch) (D : va_G) (cs : Nat → ClassId) (ad : Nat → Nat) {M : px_M} {r : Int32} (hf : fC_Line_size_12 M = some r) : px_mI l D (tyC cs) (wC cs ad) yX2_size cX2_size 1 (some .int) 0 [.ref (ad 12)] M r M := by
  refine px_ofI (by decide +kernel) (Nat.le_of_ble_eq_true rfl) ?_
  intro p e s m below meth c A ls X hr hlk hml w hl
  have hl : lv_has ls 1 [(0, .ref (ad 12))] := hl
  unfold fC_Line_size_12 at hf
  refine lv_aload_n X.1 X.2.1 dX2_size_0 rfl (lv_at hl 0 rfl) ?_
  refine gtC_12_5 X w dX2_size_1 ?_
  cases hf
  exact px_retI X hr hlk w dX2_size_4
def fC_Line_kind_12 (M : px_M) : Option Int32 := px_ck (M 12 4) 1051 (some (M 13 (M 12 4).toNatClampNeg))
set_option maxHeartbeats 4000000 in
set_option maxRecDepth 100000 in
theorem cC_Line_kind_12 (l : Launch) (D : va_G) (cs : Nat → ClassId) (ad : Nat → Nat) {M : px_M} {r : Int32} (hf : fC_Line_kind_12 M = some r) : px_mI l D (tyC cs) (wC cs ad) yX2_kind cX2_kind 1 (some .int) 0 [.ref (ad 12)] M r M := by
  refine px_ofI (by decide +kernel) (Nat.le_of_ble_eq_true rfl) ?_
  intro p e s m below meth c A ls X hr hlk hml w hl
  have hl : lv_has ls 1 [(0, .ref (ad 12))] := hl
  unfold fC_Line_kind_12 at hf
  refine lv_aload_n X.1 X.2.1 dX2_kind_0 rfl (lv_at hl 0 rfl) ?_
  refine gtC_12_1 X w dX2_kind_1 ?_
  refine lv_aload_n X.1 X.2.1 dX2_kind_4 rfl (lv_at hl 0 rfl) ?_
  refine gtC_12_4 X w dX2_kind_5 ?_
  obtain ⟨b1, hf⟩ := px_ck_e hf
  refine ilC_13 X w b1 dX2_kind_8 ?_
  cases hf
  exact px_retI X hr hlk w dX2_kind_9
def fC_Line_subject_12 (M : px_M) : Option Int32 := px_ck (M 12 4) 1051 (some (M 14 (M 12 4).toNatClampNeg))
set_option maxHeartbeats 4000000 in
set_option maxRecDepth 100000 in
theorem cC_Line_subject_12 (l : Launch) (D : va_G) (cs : Nat → ClassId) (ad : Nat → Nat) {M : px_M} {r : Int32} (hf : fC_Line_subject_12 M = some r) : px_mI l D (tyC cs) (wC cs ad) yX2_subject cX2_subject 1 (some .int) 0 [.ref (ad 12)] M r M := by
  refine px_ofI (by decide +kernel) (Nat.le_of_ble_eq_true rfl) ?_
  intro p e s m below meth c A ls X hr hlk hml w hl
  have hl : lv_has ls 1 [(0, .ref (ad 12))] := hl
  unfold fC_Line_subject_12 at hf
  refine lv_aload_n X.1 X.2.1 dX2_subject_0 rfl (lv_at hl 0 rfl) ?_
  refine gtC_12_2 X w dX2_subject_1 ?_
  refine lv_aload_n X.1 X.2.1 dX2_subject_4 rfl (lv_at hl 0 rfl) ?_
  refine gtC_12_4 X w dX2_subject_5 ?_
  obtain ⟨b1, hf⟩ := px_ck_e hf
  refine ilC_14 X w b1 dX2_subject_8 ?_
  cases hf
  exact px_retI X hr hlk w dX2_subject_9
def fC_Line_number_12 (M : px_M) : Option Int32 := px_ck (M 12 4) 1051 (some (M 15 (M 12 4).toNatClampNeg))
set_option maxHeartbeats 4000000 in
set_option maxRecDepth 100000 in
theorem cC_Line_number_12 (l : Launch) (D : va_G) (cs : Nat → ClassId) (ad : Nat → Nat) {M : px_M} {r : Int32} (hf : fC_Line_number_12 M = some r) : px_mI l D (tyC cs) (wC cs ad) yX2_number cX2_number 1 (some .int) 0 [.ref (ad 12)] M r M := by
  refine px_ofI (by decide +kernel) (Nat.le_of_ble_eq_true rfl) ?_
  intro p e s m below meth c A ls X hr hlk hml w hl
  have hl : lv_has ls 1 [(0, .ref (ad 12))] := hl
  unfold fC_Line_number_12 at hf
  refine lv_aload_n X.1 X.2.1 dX2_number_0 rfl (lv_at hl 0 rfl) ?_
  refine gtC_12_3 X w dX2_number_1 ?_
  refine lv_aload_n X.1 X.2.1 dX2_number_4 rfl (lv_at hl 0 rfl) ?_
  refine gtC_12_4 X w dX2_number_5 ?_
  obtain ⟨b1, hf⟩ := px_ck_e hf
  refine ilC_15 X w b1 dX2_number_8 ?_
  cases hf
  exact px_retI X hr hlk w dX2_number_9
def fC_Line_put_12 (M : px_M) (p1 p2 p3 : Int32) : Option px_M := (if (M 12 5) < (M 12 0) then (if (M 12 0) ≤ ((M 12 4) + (M 12 5)) then px_bn ((((M 12 4) + (M 12 5)) - (M 12 0))) (fun x3 => px_ck x3 1051 (px_bn (px_up M 13 x3.toNatClampNeg p1) (fun M5 => px_ck x3 1051 (px_bn (px_up M5 14 x3.toNatClampNeg p2) (fun M7 => px_ck x3 1051 (px_bn (px_up M7 15 x3.toNatClampNeg p3) (fun M9 => px_bn (px_up M9 12 5 ((M9 12 5) + (1 : Int32))) (fun M10 => some M10)))))))) else px_bn (((M 12 4) + (M 12 5))) (fun x11 => px_ck x11 1051 (px_bn (px_up M 13 x11.toNatClampNeg p1) (fun M13 => px_ck x11 1051 (px_bn (px_up M13 14 x11.toNatClampNeg p2) (fun M15 => px_ck x11 1051 (px_bn (px_up M15 15 x11.toNatClampNeg p3) (fun M17 => px_bn (px_up M17 12 5 ((M17 12 5) + (1 : Int32))) (fun M18 => some M18))))))))) else some M)
set_option maxHeartbeats 4000000 in
set_option maxRecDepth 100000 in
theorem cC_Line_put_12 (l : Launch) (D : va_G) (cs : Nat → ClassId) (ad : Nat → Nat) {M : px_M} {p1 p2 p3 : Int32} {M' : px_M} (hf : fC_Line_put_12 M p1 p2 p3 = some M') : px_mV l D (tyC cs) (wC cs ad) yX2_put cX2_put 5 0 [.ref (ad 12), .int p1, .int p2, .int p3] M M' := by
  refine px_ofV (by decide +kernel) (Nat.le_of_ble_eq_true rfl) ?_
  intro p e s m below meth c A ls X hr hlk hml w hl
  have hl : lv_has ls 5 [(0, .ref (ad 12)), (1, .int p1), (2, .int p2), (3, .int p3)] := hl
  unfold fC_Line_put_12 at hf
  refine lv_aload_n X.1 X.2.1 dX2_put_0 rfl (lv_at hl 0 rfl) ?_
  refine gtC_12_5 X w dX2_put_1 ?_
  refine lv_aload_n X.1 X.2.1 dX2_put_4 rfl (lv_at hl 0 rfl) ?_
  refine gtC_12_0 X w dX2_put_5 ?_
  refine lv_icmp_lt (tgt := 12) X.1 X.2.1 dX2_put_8 (by decide) (fun c1 => ?_) (fun c1 => ?_)
  · have hf := px_ip c1 hf
    refine lv_aload_n X.1 X.2.1 dX2_put_12 rfl (lv_at hl 0 rfl) ?_
    refine gtC_12_4 X w dX2_put_13 ?_
    refine lv_aload_n X.1 X.2.1 dX2_put_16 rfl (lv_at hl 0 rfl) ?_
    refine gtC_12_5 X w dX2_put_17 ?_
    refine lv_iadd X.1 X.2.1 dX2_put_20 ?_
    refine lv_aload_n X.1 X.2.1 dX2_put_21 rfl (lv_at hl 0 rfl) ?_
    refine gtC_12_0 X w dX2_put_22 ?_
    refine lv_icmp_ge (tgt := 40) X.1 X.2.1 dX2_put_25 (by decide) (fun c2 => ?_) (fun c2 => ?_)
    · have hf := px_ip c2 hf
      refine lv_aload_n X.1 X.2.1 dX2_put_40 rfl (lv_at hl 0 rfl) ?_
      refine gtC_12_4 X w dX2_put_41 ?_
      refine lv_aload_n X.1 X.2.1 dX2_put_44 rfl (lv_at hl 0 rfl) ?_
      refine gtC_12_5 X w dX2_put_45 ?_
      refine lv_iadd X.1 X.2.1 dX2_put_48 ?_
      refine lv_aload_n X.1 X.2.1 dX2_put_49 rfl (lv_at hl 0 rfl) ?_
      refine gtC_12_0 X w dX2_put_50 ?_
      refine lv_isub X.1 X.2.1 dX2_put_53 ?_
      obtain ⟨x3, ex3, hf⟩ := px_bn_e hf
      rw [← ex3]
      refine lv_istore (lv' := [(4, .int x3), (0, .ref (ad 12)), (1, .int p1), (2, .int p2), (3, .int p3)]) X.1 X.2.1 dX2_put_54 hl (by decide) rfl (fun ls hl => ?_)
      refine lv_aload_n X.1 X.2.1 dX2_put_56 rfl (lv_at hl 1 rfl) ?_
      refine gtC_12_1 X w dX2_put_57 ?_
      refine lv_iload X.1 X.2.1 dX2_put_60 (lv_at hl 0 rfl) ?_
      refine lv_iload_n X.1 X.2.1 dX2_put_62 rfl (lv_at hl 2 rfl) ?_
      obtain ⟨b4, hf⟩ := px_ck_e hf
      refine isC_13 X w b4 dX2_put_63 (fun H locs w => ?_)
      obtain ⟨M5, eM5, hf⟩ := px_bn_e hf
      rw [← eM5] at w
      refine lv_aload_n X.1 X.2.1 dX2_put_64 rfl (lv_at hl 1 rfl) ?_
      refine gtC_12_2 X w dX2_put_65 ?_
      refine lv_iload X.1 X.2.1 dX2_put_68 (lv_at hl 0 rfl) ?_
      refine lv_iload_n X.1 X.2.1 dX2_put_70 rfl (lv_at hl 3 rfl) ?_
      obtain ⟨b6, hf⟩ := px_ck_e hf
      refine isC_14 X w b6 dX2_put_71 (fun H locs w => ?_)
      obtain ⟨M7, eM7, hf⟩ := px_bn_e hf
      rw [← eM7] at w
      refine lv_aload_n X.1 X.2.1 dX2_put_72 rfl (lv_at hl 1 rfl) ?_
      refine gtC_12_3 X w dX2_put_73 ?_
      refine lv_iload X.1 X.2.1 dX2_put_76 (lv_at hl 0 rfl) ?_
      refine lv_iload_n X.1 X.2.1 dX2_put_78 rfl (lv_at hl 4 rfl) ?_
      obtain ⟨b8, hf⟩ := px_ck_e hf
      refine isC_15 X w b8 dX2_put_79 (fun H locs w => ?_)
      obtain ⟨M9, eM9, hf⟩ := px_bn_e hf
      rw [← eM9] at w
      refine lv_aload_n X.1 X.2.1 dX2_put_80 rfl (lv_at hl 1 rfl) ?_
      refine lv_dup X.1 X.2.1 dX2_put_81 rfl ?_
      refine gtC_12_5 X w dX2_put_82 ?_
      refine lv_iconst (v := (1 : Int32)) X.1 X.2.1 dX2_put_85 (by decide) ?_
      refine lv_iadd X.1 X.2.1 dX2_put_86 ?_
      refine ptC_12_5 X w dX2_put_87 (fun H locs w => ?_)
      obtain ⟨M10, eM10, hf⟩ := px_bn_e hf
      rw [← eM10] at w
      cases hf
      exact px_retV X hr hlk w dX2_put_90
    · have hf := px_in c2 hf
      refine lv_aload_n X.1 X.2.1 dX2_put_28 rfl (lv_at hl 0 rfl) ?_
      refine gtC_12_4 X w dX2_put_29 ?_
      refine lv_aload_n X.1 X.2.1 dX2_put_32 rfl (lv_at hl 0 rfl) ?_
      refine gtC_12_5 X w dX2_put_33 ?_
      refine lv_iadd X.1 X.2.1 dX2_put_36 ?_
      refine lv_goto (tgt := 54) X.1 X.2.1 dX2_put_37 (by decide) ?_
      obtain ⟨x11, ex11, hf⟩ := px_bn_e hf
      rw [← ex11]
      refine lv_istore (lv' := [(4, .int x11), (0, .ref (ad 12)), (1, .int p1), (2, .int p2), (3, .int p3)]) X.1 X.2.1 dX2_put_54 hl (by decide) rfl (fun ls hl => ?_)
      refine lv_aload_n X.1 X.2.1 dX2_put_56 rfl (lv_at hl 1 rfl) ?_
      refine gtC_12_1 X w dX2_put_57 ?_
      refine lv_iload X.1 X.2.1 dX2_put_60 (lv_at hl 0 rfl) ?_
      refine lv_iload_n X.1 X.2.1 dX2_put_62 rfl (lv_at hl 2 rfl) ?_
      obtain ⟨b12, hf⟩ := px_ck_e hf
      refine isC_13 X w b12 dX2_put_63 (fun H locs w => ?_)
      obtain ⟨M13, eM13, hf⟩ := px_bn_e hf
      rw [← eM13] at w
      refine lv_aload_n X.1 X.2.1 dX2_put_64 rfl (lv_at hl 1 rfl) ?_
      refine gtC_12_2 X w dX2_put_65 ?_
      refine lv_iload X.1 X.2.1 dX2_put_68 (lv_at hl 0 rfl) ?_
      refine lv_iload_n X.1 X.2.1 dX2_put_70 rfl (lv_at hl 3 rfl) ?_
      obtain ⟨b14, hf⟩ := px_ck_e hf
      refine isC_14 X w b14 dX2_put_71 (fun H locs w => ?_)
      obtain ⟨M15, eM15, hf⟩ := px_bn_e hf
      rw [← eM15] at w
      refine lv_aload_n X.1 X.2.1 dX2_put_72 rfl (lv_at hl 1 rfl) ?_
      refine gtC_12_3 X w dX2_put_73 ?_
      refine lv_iload X.1 X.2.1 dX2_put_76 (lv_at hl 0 rfl) ?_
      refine lv_iload_n X.1 X.2.1 dX2_put_78 rfl (lv_at hl 4 rfl) ?_
      obtain ⟨b16, hf⟩ := px_ck_e hf
      refine isC_15 X w b16 dX2_put_79 (fun H locs w => ?_)
      obtain ⟨M17, eM17, hf⟩ := px_bn_e hf
      rw [← eM17] at w
      refine lv_aload_n X.1 X.2.1 dX2_put_80 rfl (lv_at hl 1 rfl) ?_
      refine lv_dup X.1 X.2.1 dX2_put_81 rfl ?_
      refine gtC_12_5 X w dX2_put_82 ?_
      refine lv_iconst (v := (1 : Int32)) X.1 X.2.1 dX2_put_85 (by decide) ?_
      refine lv_iadd X.1 X.2.1 dX2_put_86 ?_
      refine ptC_12_5 X w dX2_put_87 (fun H locs w => ?_)
      obtain ⟨M18, eM18, hf⟩ := px_bn_e hf
      rw [← eM18] at w
      cases hf
      exact px_retV X hr hlk w dX2_put_90
  · have hf := px_in c1 hf
    cases hf
    exact px_retV X hr hlk w dX2_put_11
def fC_Line_drop_12 (M : px_M) : Option px_M := (if (M 12 5) ≤ 0 then some M else (if (M 12 0) ≤ ((M 12 4) + (1 : Int32)) then px_bn (px_up M 12 4 (0 : Int32)) (fun M3 => px_bn (px_up M3 12 5 ((M3 12 5) - (1 : Int32))) (fun M4 => some M4)) else px_bn (px_up M 12 4 ((M 12 4) + (1 : Int32))) (fun M5 => px_bn (px_up M5 12 5 ((M5 12 5) - (1 : Int32))) (fun M6 => some M6))))
set_option maxHeartbeats 4000000 in
set_option maxRecDepth 100000 in
theorem cC_Line_drop_12 (l : Launch) (D : va_G) (cs : Nat → ClassId) (ad : Nat → Nat) {M : px_M} {M' : px_M} (hf : fC_Line_drop_12 M = some M') : px_mV l D (tyC cs) (wC cs ad) yX2_drop cX2_drop 1 0 [.ref (ad 12)] M M' := by
  refine px_ofV (by decide +kernel) (Nat.le_of_ble_eq_true rfl) ?_
  intro p e s m below meth c A ls X hr hlk hml w hl
  have hl : lv_has ls 1 [(0, .ref (ad 12))] := hl
  unfold fC_Line_drop_12 at hf
  refine lv_aload_n X.1 X.2.1 dX2_drop_0 rfl (lv_at hl 0 rfl) ?_
  refine gtC_12_5 X w dX2_drop_1 ?_
  refine lv_if_le (tgt := 44) X.1 X.2.1 dX2_drop_4 (by decide) (fun c1 => ?_) (fun c1 => ?_)
  · have hf := px_ip c1 hf
    cases hf
    exact px_retV X hr hlk w dX2_drop_44
  · have hf := px_in c1 hf
    refine lv_aload_n X.1 X.2.1 dX2_drop_7 rfl (lv_at hl 0 rfl) ?_
    refine lv_aload_n X.1 X.2.1 dX2_drop_8 rfl (lv_at hl 0 rfl) ?_
    refine gtC_12_4 X w dX2_drop_9 ?_
    refine lv_iconst (v := (1 : Int32)) X.1 X.2.1 dX2_drop_12 (by decide) ?_
    refine lv_iadd X.1 X.2.1 dX2_drop_13 ?_
    refine lv_aload_n X.1 X.2.1 dX2_drop_14 rfl (lv_at hl 0 rfl) ?_
    refine gtC_12_0 X w dX2_drop_15 ?_
    refine lv_icmp_ge (tgt := 30) X.1 X.2.1 dX2_drop_18 (by decide) (fun c2 => ?_) (fun c2 => ?_)
    · have hf := px_ip c2 hf
      refine lv_iconst (v := (0 : Int32)) X.1 X.2.1 dX2_drop_30 (by decide) ?_
      refine ptC_12_4 X w dX2_drop_31 (fun H locs w => ?_)
      obtain ⟨M3, eM3, hf⟩ := px_bn_e hf
      rw [← eM3] at w
      refine lv_aload_n X.1 X.2.1 dX2_drop_34 rfl (lv_at hl 0 rfl) ?_
      refine lv_dup X.1 X.2.1 dX2_drop_35 rfl ?_
      refine gtC_12_5 X w dX2_drop_36 ?_
      refine lv_iconst (v := (1 : Int32)) X.1 X.2.1 dX2_drop_39 (by decide) ?_
      refine lv_isub X.1 X.2.1 dX2_drop_40 ?_
      refine ptC_12_5 X w dX2_drop_41 (fun H locs w => ?_)
      obtain ⟨M4, eM4, hf⟩ := px_bn_e hf
      rw [← eM4] at w
      cases hf
      exact px_retV X hr hlk w dX2_drop_44
    · have hf := px_in c2 hf
      refine lv_aload_n X.1 X.2.1 dX2_drop_21 rfl (lv_at hl 0 rfl) ?_
      refine gtC_12_4 X w dX2_drop_22 ?_
      refine lv_iconst (v := (1 : Int32)) X.1 X.2.1 dX2_drop_25 (by decide) ?_
      refine lv_iadd X.1 X.2.1 dX2_drop_26 ?_
      refine lv_goto (tgt := 31) X.1 X.2.1 dX2_drop_27 (by decide) ?_
      refine ptC_12_4 X w dX2_drop_31 (fun H locs w => ?_)
      obtain ⟨M5, eM5, hf⟩ := px_bn_e hf
      rw [← eM5] at w
      refine lv_aload_n X.1 X.2.1 dX2_drop_34 rfl (lv_at hl 0 rfl) ?_
      refine lv_dup X.1 X.2.1 dX2_drop_35 rfl ?_
      refine gtC_12_5 X w dX2_drop_36 ?_
      refine lv_iconst (v := (1 : Int32)) X.1 X.2.1 dX2_drop_39 (by decide) ?_
      refine lv_isub X.1 X.2.1 dX2_drop_40 ?_
      refine ptC_12_5 X w dX2_drop_41 (fun H locs w => ?_)
      obtain ⟨M6, eM6, hf⟩ := px_bn_e hf
      rw [← eM6] at w
      cases hf
      exact px_retV X hr hlk w dX2_drop_44
def fC_Line_size_16 (M : px_M) : Option Int32 := some (M 16 5)
set_option maxHeartbeats 4000000 in
set_option maxRecDepth 100000 in
theorem cC_Line_size_16 (l : Launch) (D : va_G) (cs : Nat → ClassId) (ad : Nat → Nat) {M : px_M} {r : Int32} (hf : fC_Line_size_16 M = some r) : px_mI l D (tyC cs) (wC cs ad) yX2_size cX2_size 1 (some .int) 0 [.ref (ad 16)] M r M := by
  refine px_ofI (by decide +kernel) (Nat.le_of_ble_eq_true rfl) ?_
  intro p e s m below meth c A ls X hr hlk hml w hl
  have hl : lv_has ls 1 [(0, .ref (ad 16))] := hl
  unfold fC_Line_size_16 at hf
  refine lv_aload_n X.1 X.2.1 dX2_size_0 rfl (lv_at hl 0 rfl) ?_
  refine gtC_16_5 X w dX2_size_1 ?_
  cases hf
  exact px_retI X hr hlk w dX2_size_4
def fC_Line_kind_16 (M : px_M) : Option Int32 := px_ck (M 16 4) 40 (some (M 17 (M 16 4).toNatClampNeg))
set_option maxHeartbeats 4000000 in
set_option maxRecDepth 100000 in
theorem cC_Line_kind_16 (l : Launch) (D : va_G) (cs : Nat → ClassId) (ad : Nat → Nat) {M : px_M} {r : Int32} (hf : fC_Line_kind_16 M = some r) : px_mI l D (tyC cs) (wC cs ad) yX2_kind cX2_kind 1 (some .int) 0 [.ref (ad 16)] M r M := by
  refine px_ofI (by decide +kernel) (Nat.le_of_ble_eq_true rfl) ?_
  intro p e s m below meth c A ls X hr hlk hml w hl
  have hl : lv_has ls 1 [(0, .ref (ad 16))] := hl
  unfold fC_Line_kind_16 at hf
  refine lv_aload_n X.1 X.2.1 dX2_kind_0 rfl (lv_at hl 0 rfl) ?_
  refine gtC_16_1 X w dX2_kind_1 ?_
  refine lv_aload_n X.1 X.2.1 dX2_kind_4 rfl (lv_at hl 0 rfl) ?_
  refine gtC_16_4 X w dX2_kind_5 ?_
  obtain ⟨b1, hf⟩ := px_ck_e hf
  refine ilC_17 X w b1 dX2_kind_8 ?_
  cases hf
  exact px_retI X hr hlk w dX2_kind_9
def fC_Line_subject_16 (M : px_M) : Option Int32 := px_ck (M 16 4) 40 (some (M 18 (M 16 4).toNatClampNeg))
set_option maxHeartbeats 4000000 in
set_option maxRecDepth 100000 in
theorem cC_Line_subject_16 (l : Launch) (D : va_G) (cs : Nat → ClassId) (ad : Nat → Nat) {M : px_M} {r : Int32} (hf : fC_Line_subject_16 M = some r) : px_mI l D (tyC cs) (wC cs ad) yX2_subject cX2_subject 1 (some .int) 0 [.ref (ad 16)] M r M := by
  refine px_ofI (by decide +kernel) (Nat.le_of_ble_eq_true rfl) ?_
  intro p e s m below meth c A ls X hr hlk hml w hl
  have hl : lv_has ls 1 [(0, .ref (ad 16))] := hl
  unfold fC_Line_subject_16 at hf
  refine lv_aload_n X.1 X.2.1 dX2_subject_0 rfl (lv_at hl 0 rfl) ?_
  refine gtC_16_2 X w dX2_subject_1 ?_
  refine lv_aload_n X.1 X.2.1 dX2_subject_4 rfl (lv_at hl 0 rfl) ?_
  refine gtC_16_4 X w dX2_subject_5 ?_
  obtain ⟨b1, hf⟩ := px_ck_e hf
  refine ilC_18 X w b1 dX2_subject_8 ?_
  cases hf
  exact px_retI X hr hlk w dX2_subject_9
def fC_Line_number_16 (M : px_M) : Option Int32 := px_ck (M 16 4) 40 (some (M 19 (M 16 4).toNatClampNeg))
set_option maxHeartbeats 4000000 in
set_option maxRecDepth 100000 in
theorem cC_Line_number_16 (l : Launch) (D : va_G) (cs : Nat → ClassId) (ad : Nat → Nat) {M : px_M} {r : Int32} (hf : fC_Line_number_16 M = some r) : px_mI l D (tyC cs) (wC cs ad) yX2_number cX2_number 1 (some .int) 0 [.ref (ad 16)] M r M := by
  refine px_ofI (by decide +kernel) (Nat.le_of_ble_eq_true rfl) ?_
  intro p e s m below meth c A ls X hr hlk hml w hl
  have hl : lv_has ls 1 [(0, .ref (ad 16))] := hl
  unfold fC_Line_number_16 at hf
  refine lv_aload_n X.1 X.2.1 dX2_number_0 rfl (lv_at hl 0 rfl) ?_
  refine gtC_16_3 X w dX2_number_1 ?_
  refine lv_aload_n X.1 X.2.1 dX2_number_4 rfl (lv_at hl 0 rfl) ?_
  refine gtC_16_4 X w dX2_number_5 ?_
  obtain ⟨b1, hf⟩ := px_ck_e hf
  refine ilC_19 X w b1 dX2_number_8 ?_
  cases hf
  exact px_retI X hr hlk w dX2_number_9
def fC_Line_put_16 (M : px_M) (p1 p2 p3 : Int32) : Option px_M := (if (M 16 5) < (M 16 0) then (if (M 16 0) ≤ ((M 16 4) + (M 16 5)) then px_bn ((((M 16 4) + (M 16 5)) - (M 16 0))) (fun x3 => px_ck x3 40 (px_bn (px_up M 17 x3.toNatClampNeg p1) (fun M5 => px_ck x3 40 (px_bn (px_up M5 18 x3.toNatClampNeg p2) (fun M7 => px_ck x3 40 (px_bn (px_up M7 19 x3.toNatClampNeg p3) (fun M9 => px_bn (px_up M9 16 5 ((M9 16 5) + (1 : Int32))) (fun M10 => some M10)))))))) else px_bn (((M 16 4) + (M 16 5))) (fun x11 => px_ck x11 40 (px_bn (px_up M 17 x11.toNatClampNeg p1) (fun M13 => px_ck x11 40 (px_bn (px_up M13 18 x11.toNatClampNeg p2) (fun M15 => px_ck x11 40 (px_bn (px_up M15 19 x11.toNatClampNeg p3) (fun M17 => px_bn (px_up M17 16 5 ((M17 16 5) + (1 : Int32))) (fun M18 => some M18))))))))) else some M)
set_option maxHeartbeats 4000000 in
set_option maxRecDepth 100000 in
theorem cC_Line_put_16 (l : Launch) (D : va_G) (cs : Nat → ClassId) (ad : Nat → Nat) {M : px_M} {p1 p2 p3 : Int32} {M' : px_M} (hf : fC_Line_put_16 M p1 p2 p3 = some M') : px_mV l D (tyC cs) (wC cs ad) yX2_put cX2_put 5 0 [.ref (ad 16), .int p1, .int p2, .int p3] M M' := by
  refine px_ofV (by decide +kernel) (Nat.le_of_ble_eq_true rfl) ?_
  intro p e s m below meth c A ls X hr hlk hml w hl
  have hl : lv_has ls 5 [(0, .ref (ad 16)), (1, .int p1), (2, .int p2), (3, .int p3)] := hl
  unfold fC_Line_put_16 at hf
  refine lv_aload_n X.1 X.2.1 dX2_put_0 rfl (lv_at hl 0 rfl) ?_
  refine gtC_16_5 X w dX2_put_1 ?_
  refine lv_aload_n X.1 X.2.1 dX2_put_4 rfl (lv_at hl 0 rfl) ?_
  refine gtC_16_0 X w dX2_put_5 ?_
  refine lv_icmp_lt (tgt := 12) X.1 X.2.1 dX2_put_8 (by decide) (fun c1 => ?_) (fun c1 => ?_)
  · have hf := px_ip c1 hf
    refine lv_aload_n X.1 X.2.1 dX2_put_12 rfl (lv_at hl 0 rfl) ?_
    refine gtC_16_4 X w dX2_put_13 ?_
    refine lv_aload_n X.1 X.2.1 dX2_put_16 rfl (lv_at hl 0 rfl) ?_
    refine gtC_16_5 X w dX2_put_17 ?_
    refine lv_iadd X.1 X.2.1 dX2_put_20 ?_
    refine lv_aload_n X.1 X.2.1 dX2_put_21 rfl (lv_at hl 0 rfl) ?_
    refine gtC_16_0 X w dX2_put_22 ?_
    refine lv_icmp_ge (tgt := 40) X.1 X.2.1 dX2_put_25 (by decide) (fun c2 => ?_) (fun c2 => ?_)
    · have hf := px_ip c2 hf
      refine lv_aload_n X.1 X.2.1 dX2_put_40 rfl (lv_at hl 0 rfl) ?_
      refine gtC_16_4 X w dX2_put_41 ?_
      refine lv_aload_n X.1 X.2.1 dX2_put_44 rfl (lv_at hl 0 rfl) ?_
      refine gtC_16_5 X w dX2_put_45 ?_
      refine lv_iadd X.1 X.2.1 dX2_put_48 ?_
      refine lv_aload_n X.1 X.2.1 dX2_put_49 rfl (lv_at hl 0 rfl) ?_
      refine gtC_16_0 X w dX2_put_50 ?_
      refine lv_isub X.1 X.2.1 dX2_put_53 ?_
      obtain ⟨x3, ex3, hf⟩ := px_bn_e hf
      rw [← ex3]
      refine lv_istore (lv' := [(4, .int x3), (0, .ref (ad 16)), (1, .int p1), (2, .int p2), (3, .int p3)]) X.1 X.2.1 dX2_put_54 hl (by decide) rfl (fun ls hl => ?_)
      refine lv_aload_n X.1 X.2.1 dX2_put_56 rfl (lv_at hl 1 rfl) ?_
      refine gtC_16_1 X w dX2_put_57 ?_
      refine lv_iload X.1 X.2.1 dX2_put_60 (lv_at hl 0 rfl) ?_
      refine lv_iload_n X.1 X.2.1 dX2_put_62 rfl (lv_at hl 2 rfl) ?_
      obtain ⟨b4, hf⟩ := px_ck_e hf
      refine isC_17 X w b4 dX2_put_63 (fun H locs w => ?_)
      obtain ⟨M5, eM5, hf⟩ := px_bn_e hf
      rw [← eM5] at w
      refine lv_aload_n X.1 X.2.1 dX2_put_64 rfl (lv_at hl 1 rfl) ?_
      refine gtC_16_2 X w dX2_put_65 ?_
      refine lv_iload X.1 X.2.1 dX2_put_68 (lv_at hl 0 rfl) ?_
      refine lv_iload_n X.1 X.2.1 dX2_put_70 rfl (lv_at hl 3 rfl) ?_
      obtain ⟨b6, hf⟩ := px_ck_e hf
      refine isC_18 X w b6 dX2_put_71 (fun H locs w => ?_)
      obtain ⟨M7, eM7, hf⟩ := px_bn_e hf
      rw [← eM7] at w
      refine lv_aload_n X.1 X.2.1 dX2_put_72 rfl (lv_at hl 1 rfl) ?_
      refine gtC_16_3 X w dX2_put_73 ?_
      refine lv_iload X.1 X.2.1 dX2_put_76 (lv_at hl 0 rfl) ?_
      refine lv_iload_n X.1 X.2.1 dX2_put_78 rfl (lv_at hl 4 rfl) ?_
      obtain ⟨b8, hf⟩ := px_ck_e hf
      refine isC_19 X w b8 dX2_put_79 (fun H locs w => ?_)
      obtain ⟨M9, eM9, hf⟩ := px_bn_e hf
      rw [← eM9] at w
      refine lv_aload_n X.1 X.2.1 dX2_put_80 rfl (lv_at hl 1 rfl) ?_
      refine lv_dup X.1 X.2.1 dX2_put_81 rfl ?_
      refine gtC_16_5 X w dX2_put_82 ?_
      refine lv_iconst (v := (1 : Int32)) X.1 X.2.1 dX2_put_85 (by decide) ?_
      refine lv_iadd X.1 X.2.1 dX2_put_86 ?_
      refine ptC_16_5 X w dX2_put_87 (fun H locs w => ?_)
      obtain ⟨M10, eM10, hf⟩ := px_bn_e hf
      rw [← eM10] at w
      cases hf
      exact px_retV X hr hlk w dX2_put_90
    · have hf := px_in c2 hf
      refine lv_aload_n X.1 X.2.1 dX2_put_28 rfl (lv_at hl 0 rfl) ?_
      refine gtC_16_4 X w dX2_put_29 ?_
      refine lv_aload_n X.1 X.2.1 dX2_put_32 rfl (lv_at hl 0 rfl) ?_
      refine gtC_16_5 X w dX2_put_33 ?_
      refine lv_iadd X.1 X.2.1 dX2_put_36 ?_
      refine lv_goto (tgt := 54) X.1 X.2.1 dX2_put_37 (by decide) ?_
      obtain ⟨x11, ex11, hf⟩ := px_bn_e hf
      rw [← ex11]
      refine lv_istore (lv' := [(4, .int x11), (0, .ref (ad 16)), (1, .int p1), (2, .int p2), (3, .int p3)]) X.1 X.2.1 dX2_put_54 hl (by decide) rfl (fun ls hl => ?_)
      refine lv_aload_n X.1 X.2.1 dX2_put_56 rfl (lv_at hl 1 rfl) ?_
      refine gtC_16_1 X w dX2_put_57 ?_
      refine lv_iload X.1 X.2.1 dX2_put_60 (lv_at hl 0 rfl) ?_
      refine lv_iload_n X.1 X.2.1 dX2_put_62 rfl (lv_at hl 2 rfl) ?_
      obtain ⟨b12, hf⟩ := px_ck_e hf
      refine isC_17 X w b12 dX2_put_63 (fun H locs w => ?_)
      obtain ⟨M13, eM13, hf⟩ := px_bn_e hf
      rw [← eM13] at w
      refine lv_aload_n X.1 X.2.1 dX2_put_64 rfl (lv_at hl 1 rfl) ?_
      refine gtC_16_2 X w dX2_put_65 ?_
      refine lv_iload X.1 X.2.1 dX2_put_68 (lv_at hl 0 rfl) ?_
      refine lv_iload_n X.1 X.2.1 dX2_put_70 rfl (lv_at hl 3 rfl) ?_
      obtain ⟨b14, hf⟩ := px_ck_e hf
      refine isC_18 X w b14 dX2_put_71 (fun H locs w => ?_)
      obtain ⟨M15, eM15, hf⟩ := px_bn_e hf
      rw [← eM15] at w
      refine lv_aload_n X.1 X.2.1 dX2_put_72 rfl (lv_at hl 1 rfl) ?_
      refine gtC_16_3 X w dX2_put_73 ?_
      refine lv_iload X.1 X.2.1 dX2_put_76 (lv_at hl 0 rfl) ?_
      refine lv_iload_n X.1 X.2.1 dX2_put_78 rfl (lv_at hl 4 rfl) ?_
      obtain ⟨b16, hf⟩ := px_ck_e hf
      refine isC_19 X w b16 dX2_put_79 (fun H locs w => ?_)
      obtain ⟨M17, eM17, hf⟩ := px_bn_e hf
      rw [← eM17] at w
      refine lv_aload_n X.1 X.2.1 dX2_put_80 rfl (lv_at hl 1 rfl) ?_
      refine lv_dup X.1 X.2.1 dX2_put_81 rfl ?_
      refine gtC_16_5 X w dX2_put_82 ?_
      refine lv_iconst (v := (1 : Int32)) X.1 X.2.1 dX2_put_85 (by decide) ?_
      refine lv_iadd X.1 X.2.1 dX2_put_86 ?_
      refine ptC_16_5 X w dX2_put_87 (fun H locs w => ?_)
      obtain ⟨M18, eM18, hf⟩ := px_bn_e hf
      rw [← eM18] at w
      cases hf
      exact px_retV X hr hlk w dX2_put_90
  · have hf := px_in c1 hf
    cases hf
    exact px_retV X hr hlk w dX2_put_11
def fC_Line_drop_16 (M : px_M) : Option px_M := (if (M 16 5) ≤ 0 then some M else (if (M 16 0) ≤ ((M 16 4) + (1 : Int32)) then px_bn (px_up M 16 4 (0 : Int32)) (fun M3 => px_bn (px_up M3 16 5 ((M3 16 5) - (1 : Int32))) (fun M4 => some M4)) else px_bn (px_up M 16 4 ((M 16 4) + (1 : Int32))) (fun M5 => px_bn (px_up M5 16 5 ((M5 16 5) - (1 : Int32))) (fun M6 => some M6))))
set_option maxHeartbeats 4000000 in
set_option maxRecDepth 100000 in
theorem cC_Line_drop_16 (l : Launch) (D : va_G) (cs : Nat → ClassId) (ad : Nat → Nat) {M : px_M} {M' : px_M} (hf : fC_Line_drop_16 M = some M') : px_mV l D (tyC cs) (wC cs ad) yX2_drop cX2_drop 1 0 [.ref (ad 16)] M M' := by
  refine px_ofV (by decide +kernel) (Nat.le_of_ble_eq_true rfl) ?_
  intro p e s m below meth c A ls X hr hlk hml w hl
  have hl : lv_has ls 1 [(0, .ref (ad 16))] := hl
  unfold fC_Line_drop_16 at hf
  refine lv_aload_n X.1 X.2.1 dX2_drop_0 rfl (lv_at hl 0 rfl) ?_
  refine gtC_16_5 X w dX2_drop_1 ?_
  refine lv_if_le (tgt := 44) X.1 X.2.1 dX2_drop_4 (by decide) (fun c1 => ?_) (fun c1 => ?_)
  · have hf := px_ip c1 hf
    cases hf
    exact px_retV X hr hlk w dX2_drop_44
  · have hf := px_in c1 hf
    refine lv_aload_n X.1 X.2.1 dX2_drop_7 rfl (lv_at hl 0 rfl) ?_
    refine lv_aload_n X.1 X.2.1 dX2_drop_8 rfl (lv_at hl 0 rfl) ?_
    refine gtC_16_4 X w dX2_drop_9 ?_
    refine lv_iconst (v := (1 : Int32)) X.1 X.2.1 dX2_drop_12 (by decide) ?_
    refine lv_iadd X.1 X.2.1 dX2_drop_13 ?_
    refine lv_aload_n X.1 X.2.1 dX2_drop_14 rfl (lv_at hl 0 rfl) ?_
    refine gtC_16_0 X w dX2_drop_15 ?_
    refine lv_icmp_ge (tgt := 30) X.1 X.2.1 dX2_drop_18 (by decide) (fun c2 => ?_) (fun c2 => ?_)
    · have hf := px_ip c2 hf
      refine lv_iconst (v := (0 : Int32)) X.1 X.2.1 dX2_drop_30 (by decide) ?_
      refine ptC_16_4 X w dX2_drop_31 (fun H locs w => ?_)
      obtain ⟨M3, eM3, hf⟩ := px_bn_e hf
      rw [← eM3] at w
      refine lv_aload_n X.1 X.2.1 dX2_drop_34 rfl (lv_at hl 0 rfl) ?_
      refine lv_dup X.1 X.2.1 dX2_drop_35 rfl ?_
      refine gtC_16_5 X w dX2_drop_36 ?_
      refine lv_iconst (v := (1 : Int32)) X.1 X.2.1 dX2_drop_39 (by decide) ?_
      refine lv_isub X.1 X.2.1 dX2_drop_40 ?_
      refine ptC_16_5 X w dX2_drop_41 (fun H locs w => ?_)
      obtain ⟨M4, eM4, hf⟩ := px_bn_e hf
      rw [← eM4] at w
      cases hf
      exact px_retV X hr hlk w dX2_drop_44
    · have hf := px_in c2 hf
      refine lv_aload_n X.1 X.2.1 dX2_drop_21 rfl (lv_at hl 0 rfl) ?_
      refine gtC_16_4 X w dX2_drop_22 ?_
      refine lv_iconst (v := (1 : Int32)) X.1 X.2.1 dX2_drop_25 (by decide) ?_
      refine lv_iadd X.1 X.2.1 dX2_drop_26 ?_
      refine lv_goto (tgt := 31) X.1 X.2.1 dX2_drop_27 (by decide) ?_
      refine ptC_16_4 X w dX2_drop_31 (fun H locs w => ?_)
      obtain ⟨M5, eM5, hf⟩ := px_bn_e hf
      rw [← eM5] at w
      refine lv_aload_n X.1 X.2.1 dX2_drop_34 rfl (lv_at hl 0 rfl) ?_
      refine lv_dup X.1 X.2.1 dX2_drop_35 rfl ?_
      refine gtC_16_5 X w dX2_drop_36 ?_
      refine lv_iconst (v := (1 : Int32)) X.1 X.2.1 dX2_drop_39 (by decide) ?_
      refine lv_isub X.1 X.2.1 dX2_drop_40 ?_
      refine ptC_16_5 X w dX2_drop_41 (fun H locs w => ?_)
      obtain ⟨M6, eM6, hf⟩ := px_bn_e hf
      rw [← eM6] at w
      cases hf
      exact px_retV X hr hlk w dX2_drop_44
def fC_Line_size_20 (M : px_M) : Option Int32 := some (M 20 5)
set_option maxHeartbeats 4000000 in
set_option maxRecDepth 100000 in
theorem cC_Line_size_20 (l : Launch) (D : va_G) (cs : Nat → ClassId) (ad : Nat → Nat) {M : px_M} {r : Int32} (hf : fC_Line_size_20 M = some r) : px_mI l D (tyC cs) (wC cs ad) yX2_size cX2_size 1 (some .int) 0 [.ref (ad 20)] M r M := by
  refine px_ofI (by decide +kernel) (Nat.le_of_ble_eq_true rfl) ?_
  intro p e s m below meth c A ls X hr hlk hml w hl
  have hl : lv_has ls 1 [(0, .ref (ad 20))] := hl
  unfold fC_Line_size_20 at hf
  refine lv_aload_n X.1 X.2.1 dX2_size_0 rfl (lv_at hl 0 rfl) ?_
  refine gtC_20_5 X w dX2_size_1 ?_
  cases hf
  exact px_retI X hr hlk w dX2_size_4
def fC_Line_kind_20 (M : px_M) : Option Int32 := px_ck (M 20 4) 180 (some (M 21 (M 20 4).toNatClampNeg))
set_option maxHeartbeats 4000000 in
set_option maxRecDepth 100000 in
theorem cC_Line_kind_20 (l : Launch) (D : va_G) (cs : Nat → ClassId) (ad : Nat → Nat) {M : px_M} {r : Int32} (hf : fC_Line_kind_20 M = some r) : px_mI l D (tyC cs) (wC cs ad) yX2_kind cX2_kind 1 (some .int) 0 [.ref (ad 20)] M r M := by
  refine px_ofI (by decide +kernel) (Nat.le_of_ble_eq_true rfl) ?_
  intro p e s m below meth c A ls X hr hlk hml w hl
  have hl : lv_has ls 1 [(0, .ref (ad 20))] := hl
  unfold fC_Line_kind_20 at hf
  refine lv_aload_n X.1 X.2.1 dX2_kind_0 rfl (lv_at hl 0 rfl) ?_
  refine gtC_20_1 X w dX2_kind_1 ?_
  refine lv_aload_n X.1 X.2.1 dX2_kind_4 rfl (lv_at hl 0 rfl) ?_
  refine gtC_20_4 X w dX2_kind_5 ?_
  obtain ⟨b1, hf⟩ := px_ck_e hf
  refine ilC_21 X w b1 dX2_kind_8 ?_
  cases hf
  exact px_retI X hr hlk w dX2_kind_9
def fC_Line_subject_20 (M : px_M) : Option Int32 := px_ck (M 20 4) 180 (some (M 22 (M 20 4).toNatClampNeg))
set_option maxHeartbeats 4000000 in
set_option maxRecDepth 100000 in
theorem cC_Line_subject_20 (l : Launch) (D : va_G) (cs : Nat → ClassId) (ad : Nat → Nat) {M : px_M} {r : Int32} (hf : fC_Line_subject_20 M = some r) : px_mI l D (tyC cs) (wC cs ad) yX2_subject cX2_subject 1 (some .int) 0 [.ref (ad 20)] M r M := by
  refine px_ofI (by decide +kernel) (Nat.le_of_ble_eq_true rfl) ?_
  intro p e s m below meth c A ls X hr hlk hml w hl
  have hl : lv_has ls 1 [(0, .ref (ad 20))] := hl
  unfold fC_Line_subject_20 at hf
  refine lv_aload_n X.1 X.2.1 dX2_subject_0 rfl (lv_at hl 0 rfl) ?_
  refine gtC_20_2 X w dX2_subject_1 ?_
  refine lv_aload_n X.1 X.2.1 dX2_subject_4 rfl (lv_at hl 0 rfl) ?_
  refine gtC_20_4 X w dX2_subject_5 ?_
  obtain ⟨b1, hf⟩ := px_ck_e hf
  refine ilC_22 X w b1 dX2_subject_8 ?_
  cases hf
  exact px_retI X hr hlk w dX2_subject_9
def fC_Line_number_20 (M : px_M) : Option Int32 := px_ck (M 20 4) 180 (some (M 23 (M 20 4).toNatClampNeg))
set_option maxHeartbeats 4000000 in
set_option maxRecDepth 100000 in
theorem cC_Line_number_20 (l : Launch) (D : va_G) (cs : Nat → ClassId) (ad : Nat → Nat) {M : px_M} {r : Int32} (hf : fC_Line_number_20 M = some r) : px_mI l D (tyC cs) (wC cs ad) yX2_number cX2_number 1 (some .int) 0 [.ref (ad 20)] M r M := by
  refine px_ofI (by decide +kernel) (Nat.le_of_ble_eq_true rfl) ?_
  intro p e s m below meth c A ls X hr hlk hml w hl
  have hl : lv_has ls 1 [(0, .ref (ad 20))] := hl
  unfold fC_Line_number_20 at hf
  refine lv_aload_n X.1 X.2.1 dX2_number_0 rfl (lv_at hl 0 rfl) ?_
  refine gtC_20_3 X w dX2_number_1 ?_
  refine lv_aload_n X.1 X.2.1 dX2_number_4 rfl (lv_at hl 0 rfl) ?_
  refine gtC_20_4 X w dX2_number_5 ?_
  obtain ⟨b1, hf⟩ := px_ck_e hf
  refine ilC_23 X w b1 dX2_number_8 ?_
  cases hf
  exact px_retI X hr hlk w dX2_number_9
def fC_Line_put_20 (M : px_M) (p1 p2 p3 : Int32) : Option px_M := (if (M 20 5) < (M 20 0) then (if (M 20 0) ≤ ((M 20 4) + (M 20 5)) then px_bn ((((M 20 4) + (M 20 5)) - (M 20 0))) (fun x3 => px_ck x3 180 (px_bn (px_up M 21 x3.toNatClampNeg p1) (fun M5 => px_ck x3 180 (px_bn (px_up M5 22 x3.toNatClampNeg p2) (fun M7 => px_ck x3 180 (px_bn (px_up M7 23 x3.toNatClampNeg p3) (fun M9 => px_bn (px_up M9 20 5 ((M9 20 5) + (1 : Int32))) (fun M10 => some M10)))))))) else px_bn (((M 20 4) + (M 20 5))) (fun x11 => px_ck x11 180 (px_bn (px_up M 21 x11.toNatClampNeg p1) (fun M13 => px_ck x11 180 (px_bn (px_up M13 22 x11.toNatClampNeg p2) (fun M15 => px_ck x11 180 (px_bn (px_up M15 23 x11.toNatClampNeg p3) (fun M17 => px_bn (px_up M17 20 5 ((M17 20 5) + (1 : Int32))) (fun M18 => some M18))))))))) else some M)
set_option maxHeartbeats 4000000 in
set_option maxRecDepth 100000 in
theorem cC_Line_put_20 (l : Launch) (D : va_G) (cs : Nat → ClassId) (ad : Nat → Nat) {M : px_M} {p1 p2 p3 : Int32} {M' : px_M} (hf : fC_Line_put_20 M p1 p2 p3 = some M') : px_mV l D (tyC cs) (wC cs ad) yX2_put cX2_put 5 0 [.ref (ad 20), .int p1, .int p2, .int p3] M M' := by
  refine px_ofV (by decide +kernel) (Nat.le_of_ble_eq_true rfl) ?_
  intro p e s m below meth c A ls X hr hlk hml w hl
  have hl : lv_has ls 5 [(0, .ref (ad 20)), (1, .int p1), (2, .int p2), (3, .int p3)] := hl
  unfold fC_Line_put_20 at hf
  refine lv_aload_n X.1 X.2.1 dX2_put_0 rfl (lv_at hl 0 rfl) ?_
  refine gtC_20_5 X w dX2_put_1 ?_
  refine lv_aload_n X.1 X.2.1 dX2_put_4 rfl (lv_at hl 0 rfl) ?_
  refine gtC_20_0 X w dX2_put_5 ?_
  refine lv_icmp_lt (tgt := 12) X.1 X.2.1 dX2_put_8 (by decide) (fun c1 => ?_) (fun c1 => ?_)
  · have hf := px_ip c1 hf
    refine lv_aload_n X.1 X.2.1 dX2_put_12 rfl (lv_at hl 0 rfl) ?_
    refine gtC_20_4 X w dX2_put_13 ?_
    refine lv_aload_n X.1 X.2.1 dX2_put_16 rfl (lv_at hl 0 rfl) ?_
    refine gtC_20_5 X w dX2_put_17 ?_
    refine lv_iadd X.1 X.2.1 dX2_put_20 ?_
    refine lv_aload_n X.1 X.2.1 dX2_put_21 rfl (lv_at hl 0 rfl) ?_
    refine gtC_20_0 X w dX2_put_22 ?_
    refine lv_icmp_ge (tgt := 40) X.1 X.2.1 dX2_put_25 (by decide) (fun c2 => ?_) (fun c2 => ?_)
    · have hf := px_ip c2 hf
      refine lv_aload_n X.1 X.2.1 dX2_put_40 rfl (lv_at hl 0 rfl) ?_
      refine gtC_20_4 X w dX2_put_41 ?_
      refine lv_aload_n X.1 X.2.1 dX2_put_44 rfl (lv_at hl 0 rfl) ?_
      refine gtC_20_5 X w dX2_put_45 ?_
      refine lv_iadd X.1 X.2.1 dX2_put_48 ?_
      refine lv_aload_n X.1 X.2.1 dX2_put_49 rfl (lv_at hl 0 rfl) ?_
      refine gtC_20_0 X w dX2_put_50 ?_
      refine lv_isub X.1 X.2.1 dX2_put_53 ?_
      obtain ⟨x3, ex3, hf⟩ := px_bn_e hf
      rw [← ex3]
      refine lv_istore (lv' := [(4, .int x3), (0, .ref (ad 20)), (1, .int p1), (2, .int p2), (3, .int p3)]) X.1 X.2.1 dX2_put_54 hl (by decide) rfl (fun ls hl => ?_)
      refine lv_aload_n X.1 X.2.1 dX2_put_56 rfl (lv_at hl 1 rfl) ?_
      refine gtC_20_1 X w dX2_put_57 ?_
      refine lv_iload X.1 X.2.1 dX2_put_60 (lv_at hl 0 rfl) ?_
      refine lv_iload_n X.1 X.2.1 dX2_put_62 rfl (lv_at hl 2 rfl) ?_
      obtain ⟨b4, hf⟩ := px_ck_e hf
      refine isC_21 X w b4 dX2_put_63 (fun H locs w => ?_)
      obtain ⟨M5, eM5, hf⟩ := px_bn_e hf
      rw [← eM5] at w
      refine lv_aload_n X.1 X.2.1 dX2_put_64 rfl (lv_at hl 1 rfl) ?_
      refine gtC_20_2 X w dX2_put_65 ?_
      refine lv_iload X.1 X.2.1 dX2_put_68 (lv_at hl 0 rfl) ?_
      refine lv_iload_n X.1 X.2.1 dX2_put_70 rfl (lv_at hl 3 rfl) ?_
      obtain ⟨b6, hf⟩ := px_ck_e hf
      refine isC_22 X w b6 dX2_put_71 (fun H locs w => ?_)
      obtain ⟨M7, eM7, hf⟩ := px_bn_e hf
      rw [← eM7] at w
      refine lv_aload_n X.1 X.2.1 dX2_put_72 rfl (lv_at hl 1 rfl) ?_
      refine gtC_20_3 X w dX2_put_73 ?_
      refine lv_iload X.1 X.2.1 dX2_put_76 (lv_at hl 0 rfl) ?_
      refine lv_iload_n X.1 X.2.1 dX2_put_78 rfl (lv_at hl 4 rfl) ?_
      obtain ⟨b8, hf⟩ := px_ck_e hf
      refine isC_23 X w b8 dX2_put_79 (fun H locs w => ?_)
      obtain ⟨M9, eM9, hf⟩ := px_bn_e hf
      rw [← eM9] at w
      refine lv_aload_n X.1 X.2.1 dX2_put_80 rfl (lv_at hl 1 rfl) ?_
      refine lv_dup X.1 X.2.1 dX2_put_81 rfl ?_
      refine gtC_20_5 X w dX2_put_82 ?_
      refine lv_iconst (v := (1 : Int32)) X.1 X.2.1 dX2_put_85 (by decide) ?_
      refine lv_iadd X.1 X.2.1 dX2_put_86 ?_
      refine ptC_20_5 X w dX2_put_87 (fun H locs w => ?_)
      obtain ⟨M10, eM10, hf⟩ := px_bn_e hf
      rw [← eM10] at w
      cases hf
      exact px_retV X hr hlk w dX2_put_90
    · have hf := px_in c2 hf
      refine lv_aload_n X.1 X.2.1 dX2_put_28 rfl (lv_at hl 0 rfl) ?_
      refine gtC_20_4 X w dX2_put_29 ?_
      refine lv_aload_n X.1 X.2.1 dX2_put_32 rfl (lv_at hl 0 rfl) ?_
      refine gtC_20_5 X w dX2_put_33 ?_
      refine lv_iadd X.1 X.2.1 dX2_put_36 ?_
      refine lv_goto (tgt := 54) X.1 X.2.1 dX2_put_37 (by decide) ?_
      obtain ⟨x11, ex11, hf⟩ := px_bn_e hf
      rw [← ex11]
      refine lv_istore (lv' := [(4, .int x11), (0, .ref (ad 20)), (1, .int p1), (2, .int p2), (3, .int p3)]) X.1 X.2.1 dX2_put_54 hl (by decide) rfl (fun ls hl => ?_)
      refine lv_aload_n X.1 X.2.1 dX2_put_56 rfl (lv_at hl 1 rfl) ?_
      refine gtC_20_1 X w dX2_put_57 ?_
      refine lv_iload X.1 X.2.1 dX2_put_60 (lv_at hl 0 rfl) ?_
      refine lv_iload_n X.1 X.2.1 dX2_put_62 rfl (lv_at hl 2 rfl) ?_
      obtain ⟨b12, hf⟩ := px_ck_e hf
      refine isC_21 X w b12 dX2_put_63 (fun H locs w => ?_)
      obtain ⟨M13, eM13, hf⟩ := px_bn_e hf
      rw [← eM13] at w
      refine lv_aload_n X.1 X.2.1 dX2_put_64 rfl (lv_at hl 1 rfl) ?_
      refine gtC_20_2 X w dX2_put_65 ?_
      refine lv_iload X.1 X.2.1 dX2_put_68 (lv_at hl 0 rfl) ?_
      refine lv_iload_n X.1 X.2.1 dX2_put_70 rfl (lv_at hl 3 rfl) ?_
      obtain ⟨b14, hf⟩ := px_ck_e hf
      refine isC_22 X w b14 dX2_put_71 (fun H locs w => ?_)
      obtain ⟨M15, eM15, hf⟩ := px_bn_e hf
      rw [← eM15] at w
      refine lv_aload_n X.1 X.2.1 dX2_put_72 rfl (lv_at hl 1 rfl) ?_
      refine gtC_20_3 X w dX2_put_73 ?_
      refine lv_iload X.1 X.2.1 dX2_put_76 (lv_at hl 0 rfl) ?_
      refine lv_iload_n X.1 X.2.1 dX2_put_78 rfl (lv_at hl 4 rfl) ?_
      obtain ⟨b16, hf⟩ := px_ck_e hf
      refine isC_23 X w b16 dX2_put_79 (fun H locs w => ?_)
      obtain ⟨M17, eM17, hf⟩ := px_bn_e hf
      rw [← eM17] at w
      refine lv_aload_n X.1 X.2.1 dX2_put_80 rfl (lv_at hl 1 rfl) ?_
      refine lv_dup X.1 X.2.1 dX2_put_81 rfl ?_
      refine gtC_20_5 X w dX2_put_82 ?_
      refine lv_iconst (v := (1 : Int32)) X.1 X.2.1 dX2_put_85 (by decide) ?_
      refine lv_iadd X.1 X.2.1 dX2_put_86 ?_
      refine ptC_20_5 X w dX2_put_87 (fun H locs w => ?_)
      obtain ⟨M18, eM18, hf⟩ := px_bn_e hf
      rw [← eM18] at w
      cases hf
      exact px_retV X hr hlk w dX2_put_90
  · have hf := px_in c1 hf
    cases hf
    exact px_retV X hr hlk w dX2_put_11
def fC_Line_drop_20 (M : px_M) : Option px_M := (if (M 20 5) ≤ 0 then some M else (if (M 20 0) ≤ ((M 20 4) + (1 : Int32)) then px_bn (px_up M 20 4 (0 : Int32)) (fun M3 => px_bn (px_up M3 20 5 ((M3 20 5) - (1 : Int32))) (fun M4 => some M4)) else px_bn (px_up M 20 4 ((M 20 4) + (1 : Int32))) (fun M5 => px_bn (px_up M5 20 5 ((M5 20 5) - (1 : Int32))) (fun M6 => some M6))))
set_option maxHeartbeats 4000000 in
set_option maxRecDepth 100000 in
theorem cC_Line_drop_20 (l : Launch) (D : va_G) (cs : Nat → ClassId) (ad : Nat → Nat) {M : px_M} {M' : px_M} (hf : fC_Line_drop_20 M = some M') : px_mV l D (tyC cs) (wC cs ad) yX2_drop cX2_drop 1 0 [.ref (ad 20)] M M' := by
  refine px_ofV (by decide +kernel) (Nat.le_of_ble_eq_true rfl) ?_
  intro p e s m below meth c A ls X hr hlk hml w hl
  have hl : lv_has ls 1 [(0, .ref (ad 20))] := hl
  unfold fC_Line_drop_20 at hf
  refine lv_aload_n X.1 X.2.1 dX2_drop_0 rfl (lv_at hl 0 rfl) ?_
  refine gtC_20_5 X w dX2_drop_1 ?_
  refine lv_if_le (tgt := 44) X.1 X.2.1 dX2_drop_4 (by decide) (fun c1 => ?_) (fun c1 => ?_)
  · have hf := px_ip c1 hf
    cases hf
    exact px_retV X hr hlk w dX2_drop_44
  · have hf := px_in c1 hf
    refine lv_aload_n X.1 X.2.1 dX2_drop_7 rfl (lv_at hl 0 rfl) ?_
    refine lv_aload_n X.1 X.2.1 dX2_drop_8 rfl (lv_at hl 0 rfl) ?_
    refine gtC_20_4 X w dX2_drop_9 ?_
    refine lv_iconst (v := (1 : Int32)) X.1 X.2.1 dX2_drop_12 (by decide) ?_
    refine lv_iadd X.1 X.2.1 dX2_drop_13 ?_
    refine lv_aload_n X.1 X.2.1 dX2_drop_14 rfl (lv_at hl 0 rfl) ?_
    refine gtC_20_0 X w dX2_drop_15 ?_
    refine lv_icmp_ge (tgt := 30) X.1 X.2.1 dX2_drop_18 (by decide) (fun c2 => ?_) (fun c2 => ?_)
    · have hf := px_ip c2 hf
      refine lv_iconst (v := (0 : Int32)) X.1 X.2.1 dX2_drop_30 (by decide) ?_
      refine ptC_20_4 X w dX2_drop_31 (fun H locs w => ?_)
      obtain ⟨M3, eM3, hf⟩ := px_bn_e hf
      rw [← eM3] at w
      refine lv_aload_n X.1 X.2.1 dX2_drop_34 rfl (lv_at hl 0 rfl) ?_
      refine lv_dup X.1 X.2.1 dX2_drop_35 rfl ?_
      refine gtC_20_5 X w dX2_drop_36 ?_
      refine lv_iconst (v := (1 : Int32)) X.1 X.2.1 dX2_drop_39 (by decide) ?_
      refine lv_isub X.1 X.2.1 dX2_drop_40 ?_
      refine ptC_20_5 X w dX2_drop_41 (fun H locs w => ?_)
      obtain ⟨M4, eM4, hf⟩ := px_bn_e hf
      rw [← eM4] at w
      cases hf
      exact px_retV X hr hlk w dX2_drop_44
    · have hf := px_in c2 hf
      refine lv_aload_n X.1 X.2.1 dX2_drop_21 rfl (lv_at hl 0 rfl) ?_
      refine gtC_20_4 X w dX2_drop_22 ?_
      refine lv_iconst (v := (1 : Int32)) X.1 X.2.1 dX2_drop_25 (by decide) ?_
      refine lv_iadd X.1 X.2.1 dX2_drop_26 ?_
      refine lv_goto (tgt := 31) X.1 X.2.1 dX2_drop_27 (by decide) ?_
      refine ptC_20_4 X w dX2_drop_31 (fun H locs w => ?_)
      obtain ⟨M5, eM5, hf⟩ := px_bn_e hf
      rw [← eM5] at w
      refine lv_aload_n X.1 X.2.1 dX2_drop_34 rfl (lv_at hl 0 rfl) ?_
      refine lv_dup X.1 X.2.1 dX2_drop_35 rfl ?_
      refine gtC_20_5 X w dX2_drop_36 ?_
      refine lv_iconst (v := (1 : Int32)) X.1 X.2.1 dX2_drop_39 (by decide) ?_
      refine lv_isub X.1 X.2.1 dX2_drop_40 ?_
      refine ptC_20_5 X w dX2_drop_41 (fun H locs w => ?_)
      obtain ⟨M6, eM6, hf⟩ := px_bn_e hf
      rw [← eM6] at w
      cases hf
      exact px_retV X hr hlk w dX2_drop_44
def fC_Line_size_24 (M : px_M) : Option Int32 := some (M 24 5)
set_option maxHeartbeats 4000000 in
set_option maxRecDepth 100000 in
theorem cC_Line_size_24 (l : Launch) (D : va_G) (cs : Nat → ClassId) (ad : Nat → Nat) {M : px_M} {r : Int32} (hf : fC_Line_size_24 M = some r) : px_mI l D (tyC cs) (wC cs ad) yX2_size cX2_size 1 (some .int) 0 [.ref (ad 24)] M r M := by
  refine px_ofI (by decide +kernel) (Nat.le_of_ble_eq_true rfl) ?_
  intro p e s m below meth c A ls X hr hlk hml w hl
  have hl : lv_has ls 1 [(0, .ref (ad 24))] := hl
  unfold fC_Line_size_24 at hf
  refine lv_aload_n X.1 X.2.1 dX2_size_0 rfl (lv_at hl 0 rfl) ?_
  refine gtC_24_5 X w dX2_size_1 ?_
  cases hf
  exact px_retI X hr hlk w dX2_size_4
def fC_Line_kind_24 (M : px_M) : Option Int32 := px_ck (M 24 4) 8 (some (M 25 (M 24 4).toNatClampNeg))
set_option maxHeartbeats 4000000 in
set_option maxRecDepth 100000 in
theorem cC_Line_kind_24 (l : Launch) (D : va_G) (cs : Nat → ClassId) (ad : Nat → Nat) {M : px_M} {r : Int32} (hf : fC_Line_kind_24 M = some r) : px_mI l D (tyC cs) (wC cs ad) yX2_kind cX2_kind 1 (some .int) 0 [.ref (ad 24)] M r M := by
  refine px_ofI (by decide +kernel) (Nat.le_of_ble_eq_true rfl) ?_
  intro p e s m below meth c A ls X hr hlk hml w hl
  have hl : lv_has ls 1 [(0, .ref (ad 24))] := hl
  unfold fC_Line_kind_24 at hf
  refine lv_aload_n X.1 X.2.1 dX2_kind_0 rfl (lv_at hl 0 rfl) ?_
  refine gtC_24_1 X w dX2_kind_1 ?_
  refine lv_aload_n X.1 X.2.1 dX2_kind_4 rfl (lv_at hl 0 rfl) ?_
  refine gtC_24_4 X w dX2_kind_5 ?_
  obtain ⟨b1, hf⟩ := px_ck_e hf
  refine ilC_25 X w b1 dX2_kind_8 ?_
  cases hf
  exact px_retI X hr hlk w dX2_kind_9
def fC_Line_subject_24 (M : px_M) : Option Int32 := px_ck (M 24 4) 8 (some (M 26 (M 24 4).toNatClampNeg))
set_option maxHeartbeats 4000000 in
set_option maxRecDepth 100000 in
theorem cC_Line_subject_24 (l : Launch) (D : va_G) (cs : Nat → ClassId) (ad : Nat → Nat) {M : px_M} {r : Int32} (hf : fC_Line_subject_24 M = some r) : px_mI l D (tyC cs) (wC cs ad) yX2_subject cX2_subject 1 (some .int) 0 [.ref (ad 24)] M r M := by
  refine px_ofI (by decide +kernel) (Nat.le_of_ble_eq_true rfl) ?_
  intro p e s m below meth c A ls X hr hlk hml w hl
  have hl : lv_has ls 1 [(0, .ref (ad 24))] := hl
  unfold fC_Line_subject_24 at hf
  refine lv_aload_n X.1 X.2.1 dX2_subject_0 rfl (lv_at hl 0 rfl) ?_
  refine gtC_24_2 X w dX2_subject_1 ?_
  refine lv_aload_n X.1 X.2.1 dX2_subject_4 rfl (lv_at hl 0 rfl) ?_
  refine gtC_24_4 X w dX2_subject_5 ?_
  obtain ⟨b1, hf⟩ := px_ck_e hf
  refine ilC_26 X w b1 dX2_subject_8 ?_
  cases hf
  exact px_retI X hr hlk w dX2_subject_9
def fC_Line_number_24 (M : px_M) : Option Int32 := px_ck (M 24 4) 8 (some (M 27 (M 24 4).toNatClampNeg))
set_option maxHeartbeats 4000000 in
set_option maxRecDepth 100000 in
theorem cC_Line_number_24 (l : Launch) (D : va_G) (cs : Nat → ClassId) (ad : Nat → Nat) {M : px_M} {r : Int32} (hf : fC_Line_number_24 M = some r) : px_mI l D (tyC cs) (wC cs ad) yX2_number cX2_number 1 (some .int) 0 [.ref (ad 24)] M r M := by
  refine px_ofI (by decide +kernel) (Nat.le_of_ble_eq_true rfl) ?_
  intro p e s m below meth c A ls X hr hlk hml w hl
  have hl : lv_has ls 1 [(0, .ref (ad 24))] := hl
  unfold fC_Line_number_24 at hf
  refine lv_aload_n X.1 X.2.1 dX2_number_0 rfl (lv_at hl 0 rfl) ?_
  refine gtC_24_3 X w dX2_number_1 ?_
  refine lv_aload_n X.1 X.2.1 dX2_number_4 rfl (lv_at hl 0 rfl) ?_
  refine gtC_24_4 X w dX2_number_5 ?_
  obtain ⟨b1, hf⟩ := px_ck_e hf
  refine ilC_27 X w b1 dX2_number_8 ?_
  cases hf
  exact px_retI X hr hlk w dX2_number_9
def fC_Line_put_24 (M : px_M) (p1 p2 p3 : Int32) : Option px_M := (if (M 24 5) < (M 24 0) then (if (M 24 0) ≤ ((M 24 4) + (M 24 5)) then px_bn ((((M 24 4) + (M 24 5)) - (M 24 0))) (fun x3 => px_ck x3 8 (px_bn (px_up M 25 x3.toNatClampNeg p1) (fun M5 => px_ck x3 8 (px_bn (px_up M5 26 x3.toNatClampNeg p2) (fun M7 => px_ck x3 8 (px_bn (px_up M7 27 x3.toNatClampNeg p3) (fun M9 => px_bn (px_up M9 24 5 ((M9 24 5) + (1 : Int32))) (fun M10 => some M10)))))))) else px_bn (((M 24 4) + (M 24 5))) (fun x11 => px_ck x11 8 (px_bn (px_up M 25 x11.toNatClampNeg p1) (fun M13 => px_ck x11 8 (px_bn (px_up M13 26 x11.toNatClampNeg p2) (fun M15 => px_ck x11 8 (px_bn (px_up M15 27 x11.toNatClampNeg p3) (fun M17 => px_bn (px_up M17 24 5 ((M17 24 5) + (1 : Int32))) (fun M18 => some M18))))))))) else some M)
set_option maxHeartbeats 4000000 in
set_option maxRecDepth 100000 in
theorem cC_Line_put_24 (l : Launch) (D : va_G) (cs : Nat → ClassId) (ad : Nat → Nat) {M : px_M} {p1 p2 p3 : Int32} {M' : px_M} (hf : fC_Line_put_24 M p1 p2 p3 = some M') : px_mV l D (tyC cs) (wC cs ad) yX2_put cX2_put 5 0 [.ref (ad 24), .int p1, .int p2, .int p3] M M' := by
  refine px_ofV (by decide +kernel) (Nat.le_of_ble_eq_true rfl) ?_
  intro p e s m below meth c A ls X hr hlk hml w hl
  have hl : lv_has ls 5 [(0, .ref (ad 24)), (1, .int p1), (2, .int p2), (3, .int p3)] := hl
  unfold fC_Line_put_24 at hf
  refine lv_aload_n X.1 X.2.1 dX2_put_0 rfl (lv_at hl 0 rfl) ?_
  refine gtC_24_5 X w dX2_put_1 ?_
  refine lv_aload_n X.1 X.2.1 dX2_put_4 rfl (lv_at hl 0 rfl) ?_
  refine gtC_24_0 X w dX2_put_5 ?_
  refine lv_icmp_lt (tgt := 12) X.1 X.2.1 dX2_put_8 (by decide) (fun c1 => ?_) (fun c1 => ?_)
  · have hf := px_ip c1 hf
    refine lv_aload_n X.1 X.2.1 dX2_put_12 rfl (lv_at hl 0 rfl) ?_
    refine gtC_24_4 X w dX2_put_13 ?_
    refine lv_aload_n X.1 X.2.1 dX2_put_16 rfl (lv_at hl 0 rfl) ?_
    refine gtC_24_5 X w dX2_put_17 ?_
    refine lv_iadd X.1 X.2.1 dX2_put_20 ?_
    refine lv_aload_n X.1 X.2.1 dX2_put_21 rfl (lv_at hl 0 rfl) ?_
    refine gtC_24_0 X w dX2_put_22 ?_
    refine lv_icmp_ge (tgt := 40) X.1 X.2.1 dX2_put_25 (by decide) (fun c2 => ?_) (fun c2 => ?_)
    · have hf := px_ip c2 hf
      refine lv_aload_n X.1 X.2.1 dX2_put_40 rfl (lv_at hl 0 rfl) ?_
      refine gtC_24_4 X w dX2_put_41 ?_
      refine lv_aload_n X.1 X.2.1 dX2_put_44 rfl (lv_at hl 0 rfl) ?_
      refine gtC_24_5 X w dX2_put_45 ?_
      refine lv_iadd X.1 X.2.1 dX2_put_48 ?_
      refine lv_aload_n X.1 X.2.1 dX2_put_49 rfl (lv_at hl 0 rfl) ?_
      refine gtC_24_0 X w dX2_put_50 ?_
      refine lv_isub X.1 X.2.1 dX2_put_53 ?_
      obtain ⟨x3, ex3, hf⟩ := px_bn_e hf
      rw [← ex3]
      refine lv_istore (lv' := [(4, .int x3), (0, .ref (ad 24)), (1, .int p1), (2, .int p2), (3, .int p3)]) X.1 X.2.1 dX2_put_54 hl (by decide) rfl (fun ls hl => ?_)
      refine lv_aload_n X.1 X.2.1 dX2_put_56 rfl (lv_at hl 1 rfl) ?_
      refine gtC_24_1 X w dX2_put_57 ?_
      refine lv_iload X.1 X.2.1 dX2_put_60 (lv_at hl 0 rfl) ?_
      refine lv_iload_n X.1 X.2.1 dX2_put_62 rfl (lv_at hl 2 rfl) ?_
      obtain ⟨b4, hf⟩ := px_ck_e hf
      refine isC_25 X w b4 dX2_put_63 (fun H locs w => ?_)
      obtain ⟨M5, eM5, hf⟩ := px_bn_e hf
      rw [← eM5] at w
      refine lv_aload_n X.1 X.2.1 dX2_put_64 rfl (lv_at hl 1 rfl) ?_
      refine gtC_24_2 X w dX2_put_65 ?_
      refine lv_iload X.1 X.2.1 dX2_put_68 (lv_at hl 0 rfl) ?_
      refine lv_iload_n X.1 X.2.1 dX2_put_70 rfl (lv_at hl 3 rfl) ?_
      obtain ⟨b6, hf⟩ := px_ck_e hf
      refine isC_26 X w b6 dX2_put_71 (fun H locs w => ?_)
      obtain ⟨M7, eM7, hf⟩ := px_bn_e hf
      rw [← eM7] at w
      refine lv_aload_n X.1 X.2.1 dX2_put_72 rfl (lv_at hl 1 rfl) ?_
      refine gtC_24_3 X w dX2_put_73 ?_
      refine lv_iload X.1 X.2.1 dX2_put_76 (lv_at hl 0 rfl) ?_
      refine lv_iload_n X.1 X.2.1 dX2_put_78 rfl (lv_at hl 4 rfl) ?_
      obtain ⟨b8, hf⟩ := px_ck_e hf
      refine isC_27 X w b8 dX2_put_79 (fun H locs w => ?_)
      obtain ⟨M9, eM9, hf⟩ := px_bn_e hf
      rw [← eM9] at w
      refine lv_aload_n X.1 X.2.1 dX2_put_80 rfl (lv_at hl 1 rfl) ?_
      refine lv_dup X.1 X.2.1 dX2_put_81 rfl ?_
      refine gtC_24_5 X w dX2_put_82 ?_
      refine lv_iconst (v := (1 : Int32)) X.1 X.2.1 dX2_put_85 (by decide) ?_
      refine lv_iadd X.1 X.2.1 dX2_put_86 ?_
      refine ptC_24_5 X w dX2_put_87 (fun H locs w => ?_)
      obtain ⟨M10, eM10, hf⟩ := px_bn_e hf
      rw [← eM10] at w
      cases hf
      exact px_retV X hr hlk w dX2_put_90
    · have hf := px_in c2 hf
      refine lv_aload_n X.1 X.2.1 dX2_put_28 rfl (lv_at hl 0 rfl) ?_
      refine gtC_24_4 X w dX2_put_29 ?_
      refine lv_aload_n X.1 X.2.1 dX2_put_32 rfl (lv_at hl 0 rfl) ?_
      refine gtC_24_5 X w dX2_put_33 ?_
      refine lv_iadd X.1 X.2.1 dX2_put_36 ?_
      refine lv_goto (tgt := 54) X.1 X.2.1 dX2_put_37 (by decide) ?_
      obtain ⟨x11, ex11, hf⟩ := px_bn_e hf
      rw [← ex11]
      refine lv_istore (lv' := [(4, .int x11), (0, .ref (ad 24)), (1, .int p1), (2, .int p2), (3, .int p3)]) X.1 X.2.1 dX2_put_54 hl (by decide) rfl (fun ls hl => ?_)
      refine lv_aload_n X.1 X.2.1 dX2_put_56 rfl (lv_at hl 1 rfl) ?_
      refine gtC_24_1 X w dX2_put_57 ?_
      refine lv_iload X.1 X.2.1 dX2_put_60 (lv_at hl 0 rfl) ?_
      refine lv_iload_n X.1 X.2.1 dX2_put_62 rfl (lv_at hl 2 rfl) ?_
      obtain ⟨b12, hf⟩ := px_ck_e hf
      refine isC_25 X w b12 dX2_put_63 (fun H locs w => ?_)
      obtain ⟨M13, eM13, hf⟩ := px_bn_e hf
      rw [← eM13] at w
      refine lv_aload_n X.1 X.2.1 dX2_put_64 rfl (lv_at hl 1 rfl) ?_
      refine gtC_24_2 X w dX2_put_65 ?_
      refine lv_iload X.1 X.2.1 dX2_put_68 (lv_at hl 0 rfl) ?_
      refine lv_iload_n X.1 X.2.1 dX2_put_70 rfl (lv_at hl 3 rfl) ?_
      obtain ⟨b14, hf⟩ := px_ck_e hf
      refine isC_26 X w b14 dX2_put_71 (fun H locs w => ?_)
      obtain ⟨M15, eM15, hf⟩ := px_bn_e hf
      rw [← eM15] at w
      refine lv_aload_n X.1 X.2.1 dX2_put_72 rfl (lv_at hl 1 rfl) ?_
      refine gtC_24_3 X w dX2_put_73 ?_
      refine lv_iload X.1 X.2.1 dX2_put_76 (lv_at hl 0 rfl) ?_
      refine lv_iload_n X.1 X.2.1 dX2_put_78 rfl (lv_at hl 4 rfl) ?_
      obtain ⟨b16, hf⟩ := px_ck_e hf
      refine isC_27 X w b16 dX2_put_79 (fun H locs w => ?_)
      obtain ⟨M17, eM17, hf⟩ := px_bn_e hf
      rw [← eM17] at w
      refine lv_aload_n X.1 X.2.1 dX2_put_80 rfl (lv_at hl 1 rfl) ?_
      refine lv_dup X.1 X.2.1 dX2_put_81 rfl ?_
      refine gtC_24_5 X w dX2_put_82 ?_
      refine lv_iconst (v := (1 : Int32)) X.1 X.2.1 dX2_put_85 (by decide) ?_
      refine lv_iadd X.1 X.2.1 dX2_put_86 ?_
      refine ptC_24_5 X w dX2_put_87 (fun H locs w => ?_)
      obtain ⟨M18, eM18, hf⟩ := px_bn_e hf
      rw [← eM18] at w
      cases hf
      exact px_retV X hr hlk w dX2_put_90
  · have hf := px_in c1 hf
    cases hf
    exact px_retV X hr hlk w dX2_put_11
def fC_Line_drop_24 (M : px_M) : Option px_M := (if (M 24 5) ≤ 0 then some M else (if (M 24 0) ≤ ((M 24 4) + (1 : Int32)) then px_bn (px_up M 24 4 (0 : Int32)) (fun M3 => px_bn (px_up M3 24 5 ((M3 24 5) - (1 : Int32))) (fun M4 => some M4)) else px_bn (px_up M 24 4 ((M 24 4) + (1 : Int32))) (fun M5 => px_bn (px_up M5 24 5 ((M5 24 5) - (1 : Int32))) (fun M6 => some M6))))
set_option maxHeartbeats 4000000 in
set_option maxRecDepth 100000 in
theorem cC_Line_drop_24 (l : Launch) (D : va_G) (cs : Nat → ClassId) (ad : Nat → Nat) {M : px_M} {M' : px_M} (hf : fC_Line_drop_24 M = some M') : px_mV l D (tyC cs) (wC cs ad) yX2_drop cX2_drop 1 0 [.ref (ad 24)] M M' := by
  refine px_ofV (by decide +kernel) (Nat.le_of_ble_eq_true rfl) ?_
  intro p e s m below meth c A ls X hr hlk hml w hl
  have hl : lv_has ls 1 [(0, .ref (ad 24))] := hl
  unfold fC_Line_drop_24 at hf
  refine lv_aload_n X.1 X.2.1 dX2_drop_0 rfl (lv_at hl 0 rfl) ?_
  refine gtC_24_5 X w dX2_drop_1 ?_
  refine lv_if_le (tgt := 44) X.1 X.2.1 dX2_drop_4 (by decide) (fun c1 => ?_) (fun c1 => ?_)
  · have hf := px_ip c1 hf
    cases hf
    exact px_retV X hr hlk w dX2_drop_44
  · have hf := px_in c1 hf
    refine lv_aload_n X.1 X.2.1 dX2_drop_7 rfl (lv_at hl 0 rfl) ?_
    refine lv_aload_n X.1 X.2.1 dX2_drop_8 rfl (lv_at hl 0 rfl) ?_
    refine gtC_24_4 X w dX2_drop_9 ?_
    refine lv_iconst (v := (1 : Int32)) X.1 X.2.1 dX2_drop_12 (by decide) ?_
    refine lv_iadd X.1 X.2.1 dX2_drop_13 ?_
    refine lv_aload_n X.1 X.2.1 dX2_drop_14 rfl (lv_at hl 0 rfl) ?_
    refine gtC_24_0 X w dX2_drop_15 ?_
    refine lv_icmp_ge (tgt := 30) X.1 X.2.1 dX2_drop_18 (by decide) (fun c2 => ?_) (fun c2 => ?_)
    · have hf := px_ip c2 hf
      refine lv_iconst (v := (0 : Int32)) X.1 X.2.1 dX2_drop_30 (by decide) ?_
      refine ptC_24_4 X w dX2_drop_31 (fun H locs w => ?_)
      obtain ⟨M3, eM3, hf⟩ := px_bn_e hf
      rw [← eM3] at w
      refine lv_aload_n X.1 X.2.1 dX2_drop_34 rfl (lv_at hl 0 rfl) ?_
      refine lv_dup X.1 X.2.1 dX2_drop_35 rfl ?_
      refine gtC_24_5 X w dX2_drop_36 ?_
      refine lv_iconst (v := (1 : Int32)) X.1 X.2.1 dX2_drop_39 (by decide) ?_
      refine lv_isub X.1 X.2.1 dX2_drop_40 ?_
      refine ptC_24_5 X w dX2_drop_41 (fun H locs w => ?_)
      obtain ⟨M4, eM4, hf⟩ := px_bn_e hf
      rw [← eM4] at w
      cases hf
      exact px_retV X hr hlk w dX2_drop_44
    · have hf := px_in c2 hf
      refine lv_aload_n X.1 X.2.1 dX2_drop_21 rfl (lv_at hl 0 rfl) ?_
      refine gtC_24_4 X w dX2_drop_22 ?_
      refine lv_iconst (v := (1 : Int32)) X.1 X.2.1 dX2_drop_25 (by decide) ?_
      refine lv_iadd X.1 X.2.1 dX2_drop_26 ?_
      refine lv_goto (tgt := 31) X.1 X.2.1 dX2_drop_27 (by decide) ?_
      refine ptC_24_4 X w dX2_drop_31 (fun H locs w => ?_)
      obtain ⟨M5, eM5, hf⟩ := px_bn_e hf
      rw [← eM5] at w
      refine lv_aload_n X.1 X.2.1 dX2_drop_34 rfl (lv_at hl 0 rfl) ?_
      refine lv_dup X.1 X.2.1 dX2_drop_35 rfl ?_
      refine gtC_24_5 X w dX2_drop_36 ?_
      refine lv_iconst (v := (1 : Int32)) X.1 X.2.1 dX2_drop_39 (by decide) ?_
      refine lv_isub X.1 X.2.1 dX2_drop_40 ?_
      refine ptC_24_5 X w dX2_drop_41 (fun H locs w => ?_)
      obtain ⟨M6, eM6, hf⟩ := px_bn_e hf
      rw [← eM6] at w
      cases hf
      exact px_retV X hr hlk w dX2_drop_44
end
section
def fC_Timers_size (M : px_M) : Option Int32 := some (M 43 9)
set_option maxHeartbeats 4000000 in
set_option maxRecDepth 100000 in
theorem cC_Timers_size (l : Launch) (D : va_G) (cs : Nat → ClassId) (ad : Nat → Nat) {M : px_M} {r : Int32} (hf : fC_Timers_size M = some r) : px_mI l D (tyC cs) (wC cs ad) yX4_size cX4_size 1 (some .int) 0 [.ref (ad 43)] M r M := by
  refine px_ofI (by decide +kernel) (Nat.le_of_ble_eq_true rfl) ?_
  intro p e s m below meth c A ls X hr hlk hml w hl
  have hl : lv_has ls 1 [(0, .ref (ad 43))] := hl
  unfold fC_Timers_size at hf
  refine lv_aload_n X.1 X.2.1 dX4_size_0 rfl (lv_at hl 0 rfl) ?_
  refine gtC_43_9 X w dX4_size_1 ?_
  cases hf
  exact px_retI X hr hlk w dX4_size_4
def fC_Timers_isFull (M : px_M) : Option Int32 := (if (M 43 9) < (12 : Int32) then some (0 : Int32) else some (1 : Int32))
set_option maxHeartbeats 4000000 in
set_option maxRecDepth 100000 in
theorem cC_Timers_isFull (l : Launch) (D : va_G) (cs : Nat → ClassId) (ad : Nat → Nat) {M : px_M} {r : Int32} (hf : fC_Timers_isFull M = some r) : px_mI l D (tyC cs) (wC cs ad) yX4_isFull cX4_isFull 1 (some .boolean) 0 [.ref (ad 43)] M r M := by
  refine px_ofI (by decide +kernel) (Nat.le_of_ble_eq_true rfl) ?_
  intro p e s m below meth c A ls X hr hlk hml w hl
  have hl : lv_has ls 1 [(0, .ref (ad 43))] := hl
  unfold fC_Timers_isFull at hf
  refine lv_aload_n X.1 X.2.1 dX4_isFull_0 rfl (lv_at hl 0 rfl) ?_
  refine gtC_43_9 X w dX4_isFull_1 ?_
  refine lv_bipush (v := (12 : Int32)) X.1 X.2.1 dX4_isFull_4 (by decide) ?_
  refine lv_icmp_lt (tgt := 13) X.1 X.2.1 dX4_isFull_6 (by decide) (fun c1 => ?_) (fun c1 => ?_)
  · have hf := px_ip c1 hf
    refine lv_iconst (v := (0 : Int32)) X.1 X.2.1 dX4_isFull_13 (by decide) ?_
    cases hf
    exact px_retZ X hr hlk narrow_b0 w dX4_isFull_14
  · have hf := px_in c1 hf
    refine lv_iconst (v := (1 : Int32)) X.1 X.2.1 dX4_isFull_9 (by decide) ?_
    refine lv_goto (tgt := 14) X.1 X.2.1 dX4_isFull_10 (by decide) ?_
    cases hf
    exact px_retZ X hr hlk narrow_b1 w dX4_isFull_14
def gC_Timers_find_L8 (rc : px_M → Int32 → Int32 → Option Int32) (M : px_M) (y1 y2 : Int32) : Option Int32 := (if (12 : Int32) ≤ y2 then some (-1 : Int32) else px_ck y2 12 ((if (M 44 y2.toNatClampNeg) = y1 then some y2 else rc M y1 (y2 + (1 : Int32)))))
set_option maxHeartbeats 4000000 in
set_option maxRecDepth 100000 in
theorem lC_Timers_find_L8 {l : Launch} {D : va_G} {cs : Nat → ClassId} {ad : Nat → Nat} {p : Program} {e : Env} {s : State} {m : MethodId} {args : Array Value} {below : List Frame} {meth : Method} {c : Code} {A : Nat → Prop} (X : px_X D (tyC cs) p s m args c cX4_find yX4_find.cls) (hr : meth.sig.returnType = (some .int)) (hlk : meth.locks = false) (hml : c.maxLocals = 3) : ∀ (j : Nat) (M : px_M) (y1 y2 : Int32) (z : Int32), px_fx2 gC_Timers_find_L8 j M y1 y2 = some z → ∀ (H : Heap) (locs : List Loc) (ls : Array Slot), px_H D (wC cs ad) A s.heap M H locs → lv_has ls 3 [(0, .ref (ad 43)), (1, .int y1), (2, .int y2)] → W p l e (px_rm 0) s m args below meth c H locs 0 0 (px_QI D (tyC cs) (wC cs ad) below args s A z M) (F0 m 8 ls []) := by
  refine px_fx2_i (P := fun M y1 y2 (z : Int32) => ∀ (H : Heap) (locs : List Loc) (ls : Array Slot), px_H D (wC cs ad) A s.heap M H locs → lv_has ls 3 [(0, .ref (ad 43)), (1, .int y1), (2, .int y2)] → W p l e (px_rm 0) s m args below meth c H locs 0 0 (px_QI D (tyC cs) (wC cs ad) below args s A z M) (F0 m 8 ls [])) ?_
  intro rc ih M y1 y2 z hf H locs ls w hl
  unfold gC_Timers_find_L8 at hf
  refine lv_iload_n X.1 X.2.1 dX4_find_8 rfl (lv_at hl 2 rfl) ?_
  refine lv_bipush (v := (12 : Int32)) X.1 X.2.1 dX4_find_9 (by decide) ?_
  refine lv_icmp_ge (tgt := 32) X.1 X.2.1 dX4_find_11 (by decide) (fun c2 => ?_) (fun c2 => ?_)
  · have hf := px_ip c2 hf
    refine lv_iconst (v := (-1 : Int32)) X.1 X.2.1 dX4_find_32 (by decide) ?_
    cases hf
    exact px_retI X hr hlk w dX4_find_33
  · have hf := px_in c2 hf
    refine lv_aload_n X.1 X.2.1 dX4_find_14 rfl (lv_at hl 0 rfl) ?_
    refine gtC_43_0 X w dX4_find_15 ?_
    refine lv_iload_n X.1 X.2.1 dX4_find_18 rfl (lv_at hl 2 rfl) ?_
    obtain ⟨b3, hf⟩ := px_ck_e hf
    refine ilC_44 X w b3 dX4_find_19 ?_
    refine lv_iload_n X.1 X.2.1 dX4_find_20 rfl (lv_at hl 1 rfl) ?_
    refine lv_icmp_ne (tgt := 26) X.1 X.2.1 dX4_find_21 (by decide) (fun c4 => ?_) (fun c4 => ?_)
    · have hf := px_in c4 hf
      refine lv_iinc (v := (y2 + (1 : Int32))) (lv' := [(2, .int (y2 + (1 : Int32))), (0, .ref (ad 43)), (1, .int y1)]) X.1 X.2.1 dX4_find_26 hl (k := 2) rfl rfl (by decide) rfl (fun ls hl => ?_)
      refine lv_goto (tgt := 8) X.1 X.2.1 dX4_find_29 (by decide) ?_
      exact ih M y1 (y2 + (1 : Int32)) _ hf H locs ls w (lv_sub hl [1, 2, 0] rfl)
    · have hf := px_ip c4 hf
      refine lv_iload_n X.1 X.2.1 dX4_find_24 rfl (lv_at hl 2 rfl) ?_
      cases hf
      exact px_retI X hr hlk w dX4_find_25
def fC_Timers_find (M : px_M) (p1 : Int32) : Option Int32 := (if p1 = 0 then some (-1 : Int32) else px_fx2 gC_Timers_find_L8 13 M p1 (0 : Int32))
set_option maxHeartbeats 4000000 in
set_option maxRecDepth 100000 in
theorem cC_Timers_find (l : Launch) (D : va_G) (cs : Nat → ClassId) (ad : Nat → Nat) {M : px_M} {p1 : Int32} {r : Int32} (hf : fC_Timers_find M p1 = some r) : px_mI l D (tyC cs) (wC cs ad) yX4_find cX4_find 3 (some .int) 0 [.ref (ad 43), .int p1] M r M := by
  refine px_ofI (by decide +kernel) (Nat.le_of_ble_eq_true rfl) ?_
  intro p e s m below meth c A ls X hr hlk hml w hl
  have hl : lv_has ls 3 [(0, .ref (ad 43)), (1, .int p1)] := hl
  unfold fC_Timers_find at hf
  refine lv_iload_n X.1 X.2.1 dX4_find_0 rfl (lv_at hl 1 rfl) ?_
  refine lv_if_ne (tgt := 6) X.1 X.2.1 dX4_find_1 (by decide) (fun c1 => ?_) (fun c1 => ?_)
  · have hf := px_in c1 hf
    refine lv_iconst (v := (0 : Int32)) X.1 X.2.1 dX4_find_6 (by decide) ?_
    refine lv_istore_n (lv' := [(2, .int (0 : Int32)), (0, .ref (ad 43)), (1, .int p1)]) X.1 X.2.1 dX4_find_7 rfl hl (by decide) rfl (fun ls hl => ?_)
    exact lC_Timers_find_L8 X hr hlk hml 13 M p1 (0 : Int32) _ hf _ _ ls w (lv_sub hl [1, 2, 0] rfl)
  · have hf := px_ip c1 hf
    refine lv_iconst (v := (-1 : Int32)) X.1 X.2.1 dX4_find_4 (by decide) ?_
    cases hf
    exact px_retI X hr hlk w dX4_find_5
def fC_Timers_functionAt (M : px_M) (p1 : Int32) : Option Int32 := px_ck p1 12 (some (M 45 p1.toNatClampNeg))
set_option maxHeartbeats 4000000 in
set_option maxRecDepth 100000 in
theorem cC_Timers_functionAt (l : Launch) (D : va_G) (cs : Nat → ClassId) (ad : Nat → Nat) {M : px_M} {p1 : Int32} {r : Int32} (hf : fC_Timers_functionAt M p1 = some r) : px_mI l D (tyC cs) (wC cs ad) yX4_functionAt cX4_functionAt 2 (some .int) 0 [.ref (ad 43), .int p1] M r M := by
  refine px_ofI (by decide +kernel) (Nat.le_of_ble_eq_true rfl) ?_
  intro p e s m below meth c A ls X hr hlk hml w hl
  have hl : lv_has ls 2 [(0, .ref (ad 43)), (1, .int p1)] := hl
  unfold fC_Timers_functionAt at hf
  refine lv_aload_n X.1 X.2.1 dX4_functionAt_0 rfl (lv_at hl 0 rfl) ?_
  refine gtC_43_1 X w dX4_functionAt_1 ?_
  refine lv_iload_n X.1 X.2.1 dX4_functionAt_4 rfl (lv_at hl 1 rfl) ?_
  obtain ⟨b1, hf⟩ := px_ck_e hf
  refine ilC_45 X w b1 dX4_functionAt_5 ?_
  cases hf
  exact px_retI X hr hlk w dX4_functionAt_6
def fC_Timers_argumentAt (M : px_M) (p1 : Int32) : Option Int32 := px_ck p1 12 (some (M 46 p1.toNatClampNeg))
set_option maxHeartbeats 4000000 in
set_option maxRecDepth 100000 in
theorem cC_Timers_argumentAt (l : Launch) (D : va_G) (cs : Nat → ClassId) (ad : Nat → Nat) {M : px_M} {p1 : Int32} {r : Int32} (hf : fC_Timers_argumentAt M p1 = some r) : px_mI l D (tyC cs) (wC cs ad) yX4_argumentAt cX4_argumentAt 2 (some .int) 0 [.ref (ad 43), .int p1] M r M := by
  refine px_ofI (by decide +kernel) (Nat.le_of_ble_eq_true rfl) ?_
  intro p e s m below meth c A ls X hr hlk hml w hl
  have hl : lv_has ls 2 [(0, .ref (ad 43)), (1, .int p1)] := hl
  unfold fC_Timers_argumentAt at hf
  refine lv_aload_n X.1 X.2.1 dX4_argumentAt_0 rfl (lv_at hl 0 rfl) ?_
  refine gtC_43_2 X w dX4_argumentAt_1 ?_
  refine lv_iload_n X.1 X.2.1 dX4_argumentAt_4 rfl (lv_at hl 1 rfl) ?_
  obtain ⟨b1, hf⟩ := px_ck_e hf
  refine ilC_46 X w b1 dX4_argumentAt_5 ?_
  cases hf
  exact px_retI X hr hlk w dX4_argumentAt_6
def fC_Timers_levelAt (M : px_M) (p1 : Int32) : Option Int32 := px_ck p1 12 (some (M 48 p1.toNatClampNeg))
set_option maxHeartbeats 4000000 in
set_option maxRecDepth 100000 in
theorem cC_Timers_levelAt (l : Launch) (D : va_G) (cs : Nat → ClassId) (ad : Nat → Nat) {M : px_M} {p1 : Int32} {r : Int32} (hf : fC_Timers_levelAt M p1 = some r) : px_mI l D (tyC cs) (wC cs ad) yX4_levelAt cX4_levelAt 2 (some .int) 0 [.ref (ad 43), .int p1] M r M := by
  refine px_ofI (by decide +kernel) (Nat.le_of_ble_eq_true rfl) ?_
  intro p e s m below meth c A ls X hr hlk hml w hl
  have hl : lv_has ls 2 [(0, .ref (ad 43)), (1, .int p1)] := hl
  unfold fC_Timers_levelAt at hf
  refine lv_aload_n X.1 X.2.1 dX4_levelAt_0 rfl (lv_at hl 0 rfl) ?_
  refine gtC_43_4 X w dX4_levelAt_1 ?_
  refine lv_iload_n X.1 X.2.1 dX4_levelAt_4 rfl (lv_at hl 1 rfl) ?_
  obtain ⟨b1, hf⟩ := px_ck_e hf
  refine ilC_48 X w b1 dX4_levelAt_5 ?_
  cases hf
  exact px_retI X hr hlk w dX4_levelAt_6
def fC_Timers_repeatsAt (M : px_M) (p1 : Int32) : Option Int32 := px_ck p1 12 (px_cb (M 50 p1.toNatClampNeg) (some (M 50 p1.toNatClampNeg)))
set_option maxHeartbeats 4000000 in
set_option maxRecDepth 100000 in
theorem cC_Timers_repeatsAt (l : Launch) (D : va_G) (cs : Nat → ClassId) (ad : Nat → Nat) {M : px_M} {p1 : Int32} {r : Int32} (hf : fC_Timers_repeatsAt M p1 = some r) : px_mI l D (tyC cs) (wC cs ad) yX4_repeatsAt cX4_repeatsAt 2 (some .boolean) 0 [.ref (ad 43), .int p1] M r M := by
  refine px_ofI (by decide +kernel) (Nat.le_of_ble_eq_true rfl) ?_
  intro p e s m below meth c A ls X hr hlk hml w hl
  have hl : lv_has ls 2 [(0, .ref (ad 43)), (1, .int p1)] := hl
  unfold fC_Timers_repeatsAt at hf
  refine lv_aload_n X.1 X.2.1 dX4_repeatsAt_0 rfl (lv_at hl 0 rfl) ?_
  refine gtC_43_6 X w dX4_repeatsAt_1 ?_
  refine lv_iload_n X.1 X.2.1 dX4_repeatsAt_4 rfl (lv_at hl 1 rfl) ?_
  obtain ⟨b1, hf⟩ := px_ck_e hf
  refine ilC_50 X w b1 dX4_repeatsAt_5 ?_
  obtain ⟨b2, hf⟩ := px_cb_e hf
  cases hf
  exact px_retZ X hr hlk b2 w dX4_repeatsAt_6
theorem lk_4_44 : px_Lk RX4 44 yX4_find cX4_find 3 (some .int) 1 := ⟨px_tb (by decide +kernel) (by decide +kernel), px_tb (by decide +kernel) (by decide +kernel), px_tb (by decide +kernel) (by decide +kernel), px_tb (by decide +kernel) (by decide +kernel), px_tb (by decide +kernel) (by decide +kernel), by decide +kernel, by decide⟩
def fC_Timers_dueOf (M : px_M) (p1 : Int32) : Option Int32 := px_bq (fC_Timers_find M p1) (fun r2 => (if r2 = (-1 : Int32) then some (-1 : Int32) else px_ck r2 12 ((if (M 51 r2.toNatClampNeg) = 0 then px_ck r2 12 (some (M 49 r2.toNatClampNeg)) else some (-2 : Int32)))))
set_option maxHeartbeats 4000000 in
set_option maxRecDepth 100000 in
theorem cC_Timers_dueOf (l : Launch) (D : va_G) (cs : Nat → ClassId) (ad : Nat → Nat) {M : px_M} {p1 : Int32} {r : Int32} (hf : fC_Timers_dueOf M p1 = some r) : px_mI l D (tyC cs) (wC cs ad) yX4_dueOf cX4_dueOf 3 (some .int) 1 [.ref (ad 43), .int p1] M r M := by
  refine px_ofI (by decide +kernel) (Nat.le_of_ble_eq_true rfl) ?_
  intro p e s m below meth c A ls X hr hlk hml w hl
  have hl : lv_has ls 3 [(0, .ref (ad 43)), (1, .int p1)] := hl
  unfold fC_Timers_dueOf at hf
  refine lv_aload_n X.1 X.2.1 dX4_dueOf_0 rfl (lv_at hl 0 rfl) ?_
  refine lv_iload_n X.1 X.2.1 dX4_dueOf_1 rfl (lv_at hl 1 rfl) ?_
  obtain ⟨r2, e1, hf⟩ := px_bq_e hf
  refine px_cI (As := [.int p1]) (rest := []) X hml hl w (cC_Timers_find l D cs ad e1) lk_4_44 (by decide) (rcC_43 X.2.2.2.2 w) rfl (Nat.le_of_ble_eq_true rfl) dX4_dueOf_2 (fun H locs w => ?_)
  refine lv_istore_n (lv' := [(2, .int r2), (0, .ref (ad 43)), (1, .int p1)]) X.1 X.2.1 dX4_dueOf_5 rfl hl (by decide) rfl (fun ls hl => ?_)
  refine lv_iload_n X.1 X.2.1 dX4_dueOf_6 rfl (lv_at hl 0 rfl) ?_
  refine lv_iconst (v := (-1 : Int32)) X.1 X.2.1 dX4_dueOf_7 (by decide) ?_
  refine lv_icmp_ne (tgt := 13) X.1 X.2.1 dX4_dueOf_8 (by decide) (fun c3 => ?_) (fun c3 => ?_)
  · have hf := px_in c3 hf
    refine lv_aload_n X.1 X.2.1 dX4_dueOf_13 rfl (lv_at hl 1 rfl) ?_
    refine gtC_43_7 X w dX4_dueOf_14 ?_
    refine lv_iload_n X.1 X.2.1 dX4_dueOf_17 rfl (lv_at hl 0 rfl) ?_
    obtain ⟨b4, hf⟩ := px_ck_e hf
    refine ilC_51 X w b4 dX4_dueOf_18 ?_
    refine lv_if_eq (tgt := 27) X.1 X.2.1 dX4_dueOf_19 (by decide) (fun c5 => ?_) (fun c5 => ?_)
    · have hf := px_ip c5 hf
      refine lv_aload_n X.1 X.2.1 dX4_dueOf_27 rfl (lv_at hl 1 rfl) ?_
      refine gtC_43_5 X w dX4_dueOf_28 ?_
      refine lv_iload_n X.1 X.2.1 dX4_dueOf_31 rfl (lv_at hl 0 rfl) ?_
      obtain ⟨b6, hf⟩ := px_ck_e hf
      refine ilC_49 X w b6 dX4_dueOf_32 ?_
      cases hf
      exact px_retI X hr hlk w dX4_dueOf_33
    · have hf := px_in c5 hf
      refine lv_bipush (v := (-2 : Int32)) X.1 X.2.1 dX4_dueOf_22 (by decide) ?_
      refine lv_goto (tgt := 33) X.1 X.2.1 dX4_dueOf_24 (by decide) ?_
      cases hf
      exact px_retI X hr hlk w dX4_dueOf_33
  · have hf := px_ip c3 hf
    refine lv_iconst (v := (-1 : Int32)) X.1 X.2.1 dX4_dueOf_11 (by decide) ?_
    cases hf
    exact px_retI X hr hlk w dX4_dueOf_12
def fC_Timers_start (M : px_M) (p1 p2 p3 : Int32) : Option px_M := (if p2 ≤ (5 : Int32) then px_ck p1 12 (px_bn (px_up M 48 p1.toNatClampNeg p2) (fun M3 => px_ck p1 12 (px_bn (px_up M3 51 p1.toNatClampNeg (0 : Int32)) (fun M5 => px_ck p1 12 ((if (1 : Int32) ≤ (M5 47 p1.toNatClampNeg) then px_ck p1 12 (px_ck p1 12 (px_bn (px_up M5 49 p1.toNatClampNeg (p3 + (M5 47 p1.toNatClampNeg))) (fun M10 => some M10))) else px_ck p1 12 (px_bn (px_up M5 49 p1.toNatClampNeg (p3 + (1 : Int32))) (fun M12 => some M12)))))))) else px_ck p1 12 (px_bn (px_up M 48 p1.toNatClampNeg p2) (fun M14 => px_ck p1 12 (px_bn (px_up M14 51 p1.toNatClampNeg (0 : Int32)) (fun M16 => px_ck p1 12 ((if (4 : Int32) ≤ (M16 47 p1.toNatClampNeg) then px_ck p1 12 (px_ck p1 12 (px_bn (px_up M16 49 p1.toNatClampNeg (p3 + (M16 47 p1.toNatClampNeg))) (fun M21 => some M21))) else px_ck p1 12 (px_bn (px_up M16 49 p1.toNatClampNeg (p3 + (4 : Int32))) (fun M23 => some M23)))))))))
set_option maxHeartbeats 4000000 in
set_option maxRecDepth 100000 in
theorem cC_Timers_start (l : Launch) (D : va_G) (cs : Nat → ClassId) (ad : Nat → Nat) {M : px_M} {p1 p2 p3 : Int32} {M' : px_M} (hf : fC_Timers_start M p1 p2 p3 = some M') : px_mV l D (tyC cs) (wC cs ad) yX4_start cX4_start 5 0 [.ref (ad 43), .int p1, .int p2, .int p3] M M' := by
  refine px_ofV (by decide +kernel) (Nat.le_of_ble_eq_true rfl) ?_
  intro p e s m below meth c A ls X hr hlk hml w hl
  have hl : lv_has ls 5 [(0, .ref (ad 43)), (1, .int p1), (2, .int p2), (3, .int p3)] := hl
  unfold fC_Timers_start at hf
  refine lv_iload_n X.1 X.2.1 dX4_start_0 rfl (lv_at hl 2 rfl) ?_
  refine lv_iconst (v := (5 : Int32)) X.1 X.2.1 dX4_start_1 (by decide) ?_
  refine lv_icmp_le (tgt := 9) X.1 X.2.1 dX4_start_2 (by decide) (fun c1 => ?_) (fun c1 => ?_)
  · have hf := px_ip c1 hf
    refine lv_iconst (v := (1 : Int32)) X.1 X.2.1 dX4_start_9 (by decide) ?_
    refine lv_istore (lv' := [(4, .int (1 : Int32)), (0, .ref (ad 43)), (1, .int p1), (2, .int p2), (3, .int p3)]) X.1 X.2.1 dX4_start_10 hl (by decide) rfl (fun ls hl => ?_)
    refine lv_aload_n X.1 X.2.1 dX4_start_12 rfl (lv_at hl 1 rfl) ?_
    refine gtC_43_4 X w dX4_start_13 ?_
    refine lv_iload_n X.1 X.2.1 dX4_start_16 rfl (lv_at hl 2 rfl) ?_
    refine lv_iload_n X.1 X.2.1 dX4_start_17 rfl (lv_at hl 3 rfl) ?_
    obtain ⟨b2, hf⟩ := px_ck_e hf
    refine isC_48 X w b2 dX4_start_18 (fun H locs w => ?_)
    obtain ⟨M3, eM3, hf⟩ := px_bn_e hf
    rw [← eM3] at w
    refine lv_aload_n X.1 X.2.1 dX4_start_19 rfl (lv_at hl 1 rfl) ?_
    refine gtC_43_7 X w dX4_start_20 ?_
    refine lv_iload_n X.1 X.2.1 dX4_start_23 rfl (lv_at hl 2 rfl) ?_
    refine lv_iconst (v := (0 : Int32)) X.1 X.2.1 dX4_start_24 (by decide) ?_
    obtain ⟨b4, hf⟩ := px_ck_e hf
    refine isC_51 X w b4 rfl dX4_start_25 (fun H locs w => ?_)
    obtain ⟨M5, eM5, hf⟩ := px_bn_e hf
    rw [← eM5] at w
    refine lv_aload_n X.1 X.2.1 dX4_start_26 rfl (lv_at hl 1 rfl) ?_
    refine gtC_43_5 X w dX4_start_27 ?_
    refine lv_iload_n X.1 X.2.1 dX4_start_30 rfl (lv_at hl 2 rfl) ?_
    refine lv_iload_n X.1 X.2.1 dX4_start_31 rfl (lv_at hl 4 rfl) ?_
    refine lv_aload_n X.1 X.2.1 dX4_start_32 rfl (lv_at hl 1 rfl) ?_
    refine gtC_43_3 X w dX4_start_33 ?_
    refine lv_iload_n X.1 X.2.1 dX4_start_36 rfl (lv_at hl 2 rfl) ?_
    obtain ⟨b6, hf⟩ := px_ck_e hf
    refine ilC_47 X w b6 dX4_start_37 ?_
    refine lv_iload X.1 X.2.1 dX4_start_38 (lv_at hl 0 rfl) ?_
    refine lv_icmp_ge (tgt := 48) X.1 X.2.1 dX4_start_40 (by decide) (fun c7 => ?_) (fun c7 => ?_)
    · have hf := px_ip c7 hf
      refine lv_aload_n X.1 X.2.1 dX4_start_48 rfl (lv_at hl 1 rfl) ?_
      refine gtC_43_3 X w dX4_start_49 ?_
      refine lv_iload_n X.1 X.2.1 dX4_start_52 rfl (lv_at hl 2 rfl) ?_
      obtain ⟨b8, hf⟩ := px_ck_e hf
      refine ilC_47 X w b8 dX4_start_53 ?_
      refine lv_iadd X.1 X.2.1 dX4_start_54 ?_
      obtain ⟨b9, hf⟩ := px_ck_e hf
      refine isC_49 X w b9 dX4_start_55 (fun H locs w => ?_)
      obtain ⟨M10, eM10, hf⟩ := px_bn_e hf
      rw [← eM10] at w
      cases hf
      exact px_retV X hr hlk w dX4_start_56
    · have hf := px_in c7 hf
      refine lv_iload X.1 X.2.1 dX4_start_43 (lv_at hl 0 rfl) ?_
      refine lv_goto (tgt := 54) X.1 X.2.1 dX4_start_45 (by decide) ?_
      refine lv_iadd X.1 X.2.1 dX4_start_54 ?_
      obtain ⟨b11, hf⟩ := px_ck_e hf
      refine isC_49 X w b11 dX4_start_55 (fun H locs w => ?_)
      obtain ⟨M12, eM12, hf⟩ := px_bn_e hf
      rw [← eM12] at w
      cases hf
      exact px_retV X hr hlk w dX4_start_56
  · have hf := px_in c1 hf
    refine lv_iconst (v := (4 : Int32)) X.1 X.2.1 dX4_start_5 (by decide) ?_
    refine lv_goto (tgt := 10) X.1 X.2.1 dX4_start_6 (by decide) ?_
    refine lv_istore (lv' := [(4, .int (4 : Int32)), (0, .ref (ad 43)), (1, .int p1), (2, .int p2), (3, .int p3)]) X.1 X.2.1 dX4_start_10 hl (by decide) rfl (fun ls hl => ?_)
    refine lv_aload_n X.1 X.2.1 dX4_start_12 rfl (lv_at hl 1 rfl) ?_
    refine gtC_43_4 X w dX4_start_13 ?_
    refine lv_iload_n X.1 X.2.1 dX4_start_16 rfl (lv_at hl 2 rfl) ?_
    refine lv_iload_n X.1 X.2.1 dX4_start_17 rfl (lv_at hl 3 rfl) ?_
    obtain ⟨b13, hf⟩ := px_ck_e hf
    refine isC_48 X w b13 dX4_start_18 (fun H locs w => ?_)
    obtain ⟨M14, eM14, hf⟩ := px_bn_e hf
    rw [← eM14] at w
    refine lv_aload_n X.1 X.2.1 dX4_start_19 rfl (lv_at hl 1 rfl) ?_
    refine gtC_43_7 X w dX4_start_20 ?_
    refine lv_iload_n X.1 X.2.1 dX4_start_23 rfl (lv_at hl 2 rfl) ?_
    refine lv_iconst (v := (0 : Int32)) X.1 X.2.1 dX4_start_24 (by decide) ?_
    obtain ⟨b15, hf⟩ := px_ck_e hf
    refine isC_51 X w b15 rfl dX4_start_25 (fun H locs w => ?_)
    obtain ⟨M16, eM16, hf⟩ := px_bn_e hf
    rw [← eM16] at w
    refine lv_aload_n X.1 X.2.1 dX4_start_26 rfl (lv_at hl 1 rfl) ?_
    refine gtC_43_5 X w dX4_start_27 ?_
    refine lv_iload_n X.1 X.2.1 dX4_start_30 rfl (lv_at hl 2 rfl) ?_
    refine lv_iload_n X.1 X.2.1 dX4_start_31 rfl (lv_at hl 4 rfl) ?_
    refine lv_aload_n X.1 X.2.1 dX4_start_32 rfl (lv_at hl 1 rfl) ?_
    refine gtC_43_3 X w dX4_start_33 ?_
    refine lv_iload_n X.1 X.2.1 dX4_start_36 rfl (lv_at hl 2 rfl) ?_
    obtain ⟨b17, hf⟩ := px_ck_e hf
    refine ilC_47 X w b17 dX4_start_37 ?_
    refine lv_iload X.1 X.2.1 dX4_start_38 (lv_at hl 0 rfl) ?_
    refine lv_icmp_ge (tgt := 48) X.1 X.2.1 dX4_start_40 (by decide) (fun c18 => ?_) (fun c18 => ?_)
    · have hf := px_ip c18 hf
      refine lv_aload_n X.1 X.2.1 dX4_start_48 rfl (lv_at hl 1 rfl) ?_
      refine gtC_43_3 X w dX4_start_49 ?_
      refine lv_iload_n X.1 X.2.1 dX4_start_52 rfl (lv_at hl 2 rfl) ?_
      obtain ⟨b19, hf⟩ := px_ck_e hf
      refine ilC_47 X w b19 dX4_start_53 ?_
      refine lv_iadd X.1 X.2.1 dX4_start_54 ?_
      obtain ⟨b20, hf⟩ := px_ck_e hf
      refine isC_49 X w b20 dX4_start_55 (fun H locs w => ?_)
      obtain ⟨M21, eM21, hf⟩ := px_bn_e hf
      rw [← eM21] at w
      cases hf
      exact px_retV X hr hlk w dX4_start_56
    · have hf := px_in c18 hf
      refine lv_iload X.1 X.2.1 dX4_start_43 (lv_at hl 0 rfl) ?_
      refine lv_goto (tgt := 54) X.1 X.2.1 dX4_start_45 (by decide) ?_
      refine lv_iadd X.1 X.2.1 dX4_start_54 ?_
      obtain ⟨b22, hf⟩ := px_ck_e hf
      refine isC_49 X w b22 dX4_start_55 (fun H locs w => ?_)
      obtain ⟨M23, eM23, hf⟩ := px_bn_e hf
      rw [← eM23] at w
      cases hf
      exact px_retV X hr hlk w dX4_start_56
def gC_Timers_freePlace_L2 (rc : px_M → Int32 → Option Int32) (M : px_M) (y1 : Int32) : Option Int32 := (if (12 : Int32) ≤ y1 then some (-1 : Int32) else px_ck y1 12 ((if (M 44 y1.toNatClampNeg) = 0 then some y1 else rc M (y1 + (1 : Int32)))))
set_option maxHeartbeats 4000000 in
set_option maxRecDepth 100000 in
theorem lC_Timers_freePlace_L2 {l : Launch} {D : va_G} {cs : Nat → ClassId} {ad : Nat → Nat} {p : Program} {e : Env} {s : State} {m : MethodId} {args : Array Value} {below : List Frame} {meth : Method} {c : Code} {A : Nat → Prop} (X : px_X D (tyC cs) p s m args c cX4_freePlace yX4_freePlace.cls) (hr : meth.sig.returnType = (some .int)) (hlk : meth.locks = false) (hml : c.maxLocals = 2) : ∀ (j : Nat) (M : px_M) (y1 : Int32) (z : Int32), px_fx1 gC_Timers_freePlace_L2 j M y1 = some z → ∀ (H : Heap) (locs : List Loc) (ls : Array Slot), px_H D (wC cs ad) A s.heap M H locs → lv_has ls 2 [(0, .ref (ad 43)), (1, .int y1)] → W p l e (px_rm 0) s m args below meth c H locs 0 0 (px_QI D (tyC cs) (wC cs ad) below args s A z M) (F0 m 2 ls []) := by
  refine px_fx1_i (P := fun M y1 (z : Int32) => ∀ (H : Heap) (locs : List Loc) (ls : Array Slot), px_H D (wC cs ad) A s.heap M H locs → lv_has ls 2 [(0, .ref (ad 43)), (1, .int y1)] → W p l e (px_rm 0) s m args below meth c H locs 0 0 (px_QI D (tyC cs) (wC cs ad) below args s A z M) (F0 m 2 ls [])) ?_
  intro rc ih M y1 z hf H locs ls w hl
  unfold gC_Timers_freePlace_L2 at hf
  refine lv_iload_n X.1 X.2.1 dX4_freePlace_2 rfl (lv_at hl 1 rfl) ?_
  refine lv_bipush (v := (12 : Int32)) X.1 X.2.1 dX4_freePlace_3 (by decide) ?_
  refine lv_icmp_ge (tgt := 25) X.1 X.2.1 dX4_freePlace_5 (by decide) (fun c1 => ?_) (fun c1 => ?_)
  · have hf := px_ip c1 hf
    refine lv_iconst (v := (-1 : Int32)) X.1 X.2.1 dX4_freePlace_25 (by decide) ?_
    cases hf
    exact px_retI X hr hlk w dX4_freePlace_26
  · have hf := px_in c1 hf
    refine lv_aload_n X.1 X.2.1 dX4_freePlace_8 rfl (lv_at hl 0 rfl) ?_
    refine gtC_43_0 X w dX4_freePlace_9 ?_
    refine lv_iload_n X.1 X.2.1 dX4_freePlace_12 rfl (lv_at hl 1 rfl) ?_
    obtain ⟨b2, hf⟩ := px_ck_e hf
    refine ilC_44 X w b2 dX4_freePlace_13 ?_
    refine lv_if_ne (tgt := 19) X.1 X.2.1 dX4_freePlace_14 (by decide) (fun c3 => ?_) (fun c3 => ?_)
    · have hf := px_in c3 hf
      refine lv_iinc (v := (y1 + (1 : Int32))) (lv' := [(1, .int (y1 + (1 : Int32))), (0, .ref (ad 43))]) X.1 X.2.1 dX4_freePlace_19 hl (k := 1) rfl rfl (by decide) rfl (fun ls hl => ?_)
      refine lv_goto (tgt := 2) X.1 X.2.1 dX4_freePlace_22 (by decide) ?_
      exact ih M (y1 + (1 : Int32)) _ hf H locs ls w (lv_sub hl [1, 0] rfl)
    · have hf := px_ip c3 hf
      refine lv_iload_n X.1 X.2.1 dX4_freePlace_17 rfl (lv_at hl 1 rfl) ?_
      cases hf
      exact px_retI X hr hlk w dX4_freePlace_18
def fC_Timers_freePlace (M : px_M) : Option Int32 := px_fx1 gC_Timers_freePlace_L2 13 M (0 : Int32)
set_option maxHeartbeats 4000000 in
set_option maxRecDepth 100000 in
theorem cC_Timers_freePlace (l : Launch) (D : va_G) (cs : Nat → ClassId) (ad : Nat → Nat) {M : px_M} {r : Int32} (hf : fC_Timers_freePlace M = some r) : px_mI l D (tyC cs) (wC cs ad) yX4_freePlace cX4_freePlace 2 (some .int) 0 [.ref (ad 43)] M r M := by
  refine px_ofI (by decide +kernel) (Nat.le_of_ble_eq_true rfl) ?_
  intro p e s m below meth c A ls X hr hlk hml w hl
  have hl : lv_has ls 2 [(0, .ref (ad 43))] := hl
  unfold fC_Timers_freePlace at hf
  refine lv_iconst (v := (0 : Int32)) X.1 X.2.1 dX4_freePlace_0 (by decide) ?_
  refine lv_istore_n (lv' := [(1, .int (0 : Int32)), (0, .ref (ad 43))]) X.1 X.2.1 dX4_freePlace_1 rfl hl (by decide) rfl (fun ls hl => ?_)
  exact lC_Timers_freePlace_L2 X hr hlk hml 13 M (0 : Int32) _ hf _ _ ls w (lv_sub hl [1, 0] rfl)
theorem lk_4_48 : px_Lk RX4 48 yX4_freePlace cX4_freePlace 2 (some .int) 0 := ⟨px_tb (by decide +kernel) (by decide +kernel), px_tb (by decide +kernel) (by decide +kernel), px_tb (by decide +kernel) (by decide +kernel), px_tb (by decide +kernel) (by decide +kernel), px_tb (by decide +kernel) (by decide +kernel), by decide +kernel, by decide⟩
theorem lk_4_52 : px_Lk RX4 52 yX4_start cX4_start 5 none 3 := ⟨px_tb (by decide +kernel) (by decide +kernel), px_tb (by decide +kernel) (by decide +kernel), px_tb (by decide +kernel) (by decide +kernel), px_tb (by decide +kernel) (by decide +kernel), px_tb (by decide +kernel) (by decide +kernel), by decide +kernel, by decide⟩
def fC_Timers_make (M : px_M) (p1 p2 p3 p4 p5 p6 : Int32) : Option px_M := px_bq (fC_Timers_freePlace M) (fun r2 => (if r2 = (-1 : Int32) then some M else px_bn (px_up M 43 8 ((M 43 8) + (1 : Int32))) (fun M4 => px_bn (px_up M4 43 9 ((M4 43 9) + (1 : Int32))) (fun M5 => px_ck r2 12 (px_bn (px_up M5 44 r2.toNatClampNeg (M5 43 8)) (fun M7 => px_ck r2 12 (px_bn (px_up M7 45 r2.toNatClampNeg p1) (fun M9 => px_ck r2 12 (px_bn (px_up M9 46 r2.toNatClampNeg p2) (fun M11 => px_ck r2 12 (px_bn (px_up M11 47 r2.toNatClampNeg p3) (fun M13 => px_ck r2 12 (px_cb p4 (px_bn (px_up M13 50 r2.toNatClampNeg p4) (fun M16 => px_bq (fC_Timers_start M16 r2 p5 p6) (fun M18 => some M18))))))))))))))))
set_option maxHeartbeats 4000000 in
set_option maxRecDepth 100000 in
theorem cC_Timers_make (l : Launch) (D : va_G) (cs : Nat → ClassId) (ad : Nat → Nat) {M : px_M} {p1 p2 p3 p4 p5 p6 : Int32} {M' : px_M} (hf : fC_Timers_make M p1 p2 p3 p4 p5 p6 = some M') : px_mV l D (tyC cs) (wC cs ad) yX4_make cX4_make 8 1 [.ref (ad 43), .int p1, .int p2, .int p3, .int p4, .int p5, .int p6] M M' := by
  refine px_ofV (by decide +kernel) (Nat.le_of_ble_eq_true rfl) ?_
  intro p e s m below meth c A ls X hr hlk hml w hl
  have hl : lv_has ls 8 [(0, .ref (ad 43)), (1, .int p1), (2, .int p2), (3, .int p3), (4, .int p4), (5, .int p5), (6, .int p6)] := hl
  unfold fC_Timers_make at hf
  refine lv_aload_n X.1 X.2.1 dX4_make_0 rfl (lv_at hl 0 rfl) ?_
  obtain ⟨r2, e1, hf⟩ := px_bq_e hf
  refine px_cI (As := []) (rest := []) X hml hl w (cC_Timers_freePlace l D cs ad e1) lk_4_48 (by decide) (rcC_43 X.2.2.2.2 w) rfl (Nat.le_of_ble_eq_true rfl) dX4_make_1 (fun H locs w => ?_)
  refine lv_istore (lv' := [(7, .int r2), (0, .ref (ad 43)), (1, .int p1), (2, .int p2), (3, .int p3), (4, .int p4), (5, .int p5), (6, .int p6)]) X.1 X.2.1 dX4_make_4 hl (by decide) rfl (fun ls hl => ?_)
  refine lv_iload X.1 X.2.1 dX4_make_6 (lv_at hl 0 rfl) ?_
  refine lv_iconst (v := (-1 : Int32)) X.1 X.2.1 dX4_make_8 (by decide) ?_
  refine lv_icmp_ne (tgt := 13) X.1 X.2.1 dX4_make_9 (by decide) (fun c3 => ?_) (fun c3 => ?_)
  · have hf := px_in c3 hf
    refine lv_aload_n X.1 X.2.1 dX4_make_13 rfl (lv_at hl 1 rfl) ?_
    refine lv_dup X.1 X.2.1 dX4_make_14 rfl ?_
    refine gtC_43_8 X w dX4_make_15 ?_
    refine lv_iconst (v := (1 : Int32)) X.1 X.2.1 dX4_make_18 (by decide) ?_
    refine lv_iadd X.1 X.2.1 dX4_make_19 ?_
    refine ptC_43_8 X w dX4_make_20 (fun H locs w => ?_)
    obtain ⟨M4, eM4, hf⟩ := px_bn_e hf
    rw [← eM4] at w
    refine lv_aload_n X.1 X.2.1 dX4_make_23 rfl (lv_at hl 1 rfl) ?_
    refine lv_dup X.1 X.2.1 dX4_make_24 rfl ?_
    refine gtC_43_9 X w dX4_make_25 ?_
    refine lv_iconst (v := (1 : Int32)) X.1 X.2.1 dX4_make_28 (by decide) ?_
    refine lv_iadd X.1 X.2.1 dX4_make_29 ?_
    refine ptC_43_9 X w dX4_make_30 (fun H locs w => ?_)
    obtain ⟨M5, eM5, hf⟩ := px_bn_e hf
    rw [← eM5] at w
    refine lv_aload_n X.1 X.2.1 dX4_make_33 rfl (lv_at hl 1 rfl) ?_
    refine gtC_43_0 X w dX4_make_34 ?_
    refine lv_iload X.1 X.2.1 dX4_make_37 (lv_at hl 0 rfl) ?_
    refine lv_aload_n X.1 X.2.1 dX4_make_39 rfl (lv_at hl 1 rfl) ?_
    refine gtC_43_8 X w dX4_make_40 ?_
    obtain ⟨b6, hf⟩ := px_ck_e hf
    refine isC_44 X w b6 dX4_make_43 (fun H locs w => ?_)
    obtain ⟨M7, eM7, hf⟩ := px_bn_e hf
    rw [← eM7] at w
    refine lv_aload_n X.1 X.2.1 dX4_make_44 rfl (lv_at hl 1 rfl) ?_
    refine gtC_43_1 X w dX4_make_45 ?_
    refine lv_iload X.1 X.2.1 dX4_make_48 (lv_at hl 0 rfl) ?_
    refine lv_iload_n X.1 X.2.1 dX4_make_50 rfl (lv_at hl 2 rfl) ?_
    obtain ⟨b8, hf⟩ := px_ck_e hf
    refine isC_45 X w b8 dX4_make_51 (fun H locs w => ?_)
    obtain ⟨M9, eM9, hf⟩ := px_bn_e hf
    rw [← eM9] at w
    refine lv_aload_n X.1 X.2.1 dX4_make_52 rfl (lv_at hl 1 rfl) ?_
    refine gtC_43_2 X w dX4_make_53 ?_
    refine lv_iload X.1 X.2.1 dX4_make_56 (lv_at hl 0 rfl) ?_
    refine lv_iload_n X.1 X.2.1 dX4_make_58 rfl (lv_at hl 3 rfl) ?_
    obtain ⟨b10, hf⟩ := px_ck_e hf
    refine isC_46 X w b10 dX4_make_59 (fun H locs w => ?_)
    obtain ⟨M11, eM11, hf⟩ := px_bn_e hf
    rw [← eM11] at w
    refine lv_aload_n X.1 X.2.1 dX4_make_60 rfl (lv_at hl 1 rfl) ?_
    refine gtC_43_3 X w dX4_make_61 ?_
    refine lv_iload X.1 X.2.1 dX4_make_64 (lv_at hl 0 rfl) ?_
    refine lv_iload_n X.1 X.2.1 dX4_make_66 rfl (lv_at hl 4 rfl) ?_
    obtain ⟨b12, hf⟩ := px_ck_e hf
    refine isC_47 X w b12 dX4_make_67 (fun H locs w => ?_)
    obtain ⟨M13, eM13, hf⟩ := px_bn_e hf
    rw [← eM13] at w
    refine lv_aload_n X.1 X.2.1 dX4_make_68 rfl (lv_at hl 1 rfl) ?_
    refine gtC_43_6 X w dX4_make_69 ?_
    refine lv_iload X.1 X.2.1 dX4_make_72 (lv_at hl 0 rfl) ?_
    refine lv_iload X.1 X.2.1 dX4_make_74 (lv_at hl 5 rfl) ?_
    obtain ⟨b14, hf⟩ := px_ck_e hf
    obtain ⟨b15, hf⟩ := px_cb_e hf
    refine isC_50 X w b14 b15 dX4_make_76 (fun H locs w => ?_)
    obtain ⟨M16, eM16, hf⟩ := px_bn_e hf
    rw [← eM16] at w
    refine lv_aload_n X.1 X.2.1 dX4_make_77 rfl (lv_at hl 1 rfl) ?_
    refine lv_iload X.1 X.2.1 dX4_make_78 (lv_at hl 0 rfl) ?_
    refine lv_iload X.1 X.2.1 dX4_make_80 (lv_at hl 6 rfl) ?_
    refine lv_iload X.1 X.2.1 dX4_make_82 (lv_at hl 7 rfl) ?_
    obtain ⟨M18, e17, hf⟩ := px_bq_e hf
    refine px_cV (As := [.int r2, .int p5, .int p6]) (rest := []) X hml hl w (cC_Timers_start l D cs ad e17) lk_4_52 (by decide) (rcC_43 X.2.2.2.2 w) rfl (Nat.le_of_ble_eq_true rfl) dX4_make_84 (fun H locs w => ?_)
    cases hf
    exact px_retV X hr hlk w dX4_make_87
  · have hf := px_ip c3 hf
    cases hf
    exact px_retV X hr hlk w dX4_make_12
def fC_Timers_remove (M : px_M) (p1 : Int32) : Option px_M := px_bq (fC_Timers_find M p1) (fun r2 => (if r2 = (-1 : Int32) then some M else px_ck r2 12 (px_bn (px_up M 44 r2.toNatClampNeg (0 : Int32)) (fun M5 => px_bn (px_up M5 43 9 ((M5 43 9) - (1 : Int32))) (fun M6 => some M6)))))
set_option maxHeartbeats 4000000 in
set_option maxRecDepth 100000 in
theorem cC_Timers_remove (l : Launch) (D : va_G) (cs : Nat → ClassId) (ad : Nat → Nat) {M : px_M} {p1 : Int32} {M' : px_M} (hf : fC_Timers_remove M p1 = some M') : px_mV l D (tyC cs) (wC cs ad) yX4_remove cX4_remove 3 1 [.ref (ad 43), .int p1] M M' := by
  refine px_ofV (by decide +kernel) (Nat.le_of_ble_eq_true rfl) ?_
  intro p e s m below meth c A ls X hr hlk hml w hl
  have hl : lv_has ls 3 [(0, .ref (ad 43)), (1, .int p1)] := hl
  unfold fC_Timers_remove at hf
  refine lv_aload_n X.1 X.2.1 dX4_remove_0 rfl (lv_at hl 0 rfl) ?_
  refine lv_iload_n X.1 X.2.1 dX4_remove_1 rfl (lv_at hl 1 rfl) ?_
  obtain ⟨r2, e1, hf⟩ := px_bq_e hf
  refine px_cI (As := [.int p1]) (rest := []) X hml hl w (cC_Timers_find l D cs ad e1) lk_4_44 (by decide) (rcC_43 X.2.2.2.2 w) rfl (Nat.le_of_ble_eq_true rfl) dX4_remove_2 (fun H locs w => ?_)
  refine lv_istore_n (lv' := [(2, .int r2), (0, .ref (ad 43)), (1, .int p1)]) X.1 X.2.1 dX4_remove_5 rfl hl (by decide) rfl (fun ls hl => ?_)
  refine lv_iload_n X.1 X.2.1 dX4_remove_6 rfl (lv_at hl 0 rfl) ?_
  refine lv_iconst (v := (-1 : Int32)) X.1 X.2.1 dX4_remove_7 (by decide) ?_
  refine lv_icmp_eq (tgt := 28) X.1 X.2.1 dX4_remove_8 (by decide) (fun c3 => ?_) (fun c3 => ?_)
  · have hf := px_ip c3 hf
    cases hf
    exact px_retV X hr hlk w dX4_remove_28
  · have hf := px_in c3 hf
    refine lv_aload_n X.1 X.2.1 dX4_remove_11 rfl (lv_at hl 1 rfl) ?_
    refine gtC_43_0 X w dX4_remove_12 ?_
    refine lv_iload_n X.1 X.2.1 dX4_remove_15 rfl (lv_at hl 0 rfl) ?_
    refine lv_iconst (v := (0 : Int32)) X.1 X.2.1 dX4_remove_16 (by decide) ?_
    obtain ⟨b4, hf⟩ := px_ck_e hf
    refine isC_44 X w b4 dX4_remove_17 (fun H locs w => ?_)
    obtain ⟨M5, eM5, hf⟩ := px_bn_e hf
    rw [← eM5] at w
    refine lv_aload_n X.1 X.2.1 dX4_remove_18 rfl (lv_at hl 1 rfl) ?_
    refine lv_dup X.1 X.2.1 dX4_remove_19 rfl ?_
    refine gtC_43_9 X w dX4_remove_20 ?_
    refine lv_iconst (v := (1 : Int32)) X.1 X.2.1 dX4_remove_23 (by decide) ?_
    refine lv_isub X.1 X.2.1 dX4_remove_24 ?_
    refine ptC_43_9 X w dX4_remove_25 (fun H locs w => ?_)
    obtain ⟨M6, eM6, hf⟩ := px_bn_e hf
    rw [← eM6] at w
    cases hf
    exact px_retV X hr hlk w dX4_remove_28
def fC_Timers_restart (M : px_M) (p1 p2 : Int32) : Option px_M := px_bq (fC_Timers_find M p1) (fun r2 => (if r2 = (-1 : Int32) then some M else px_ck r2 12 (px_bq (fC_Timers_start M r2 ((M 48 r2.toNatClampNeg) + (1 : Int32)) p2) (fun M6 => some M6))))
set_option maxHeartbeats 4000000 in
set_option maxRecDepth 100000 in
theorem cC_Timers_restart (l : Launch) (D : va_G) (cs : Nat → ClassId) (ad : Nat → Nat) {M : px_M} {p1 p2 : Int32} {M' : px_M} (hf : fC_Timers_restart M p1 p2 = some M') : px_mV l D (tyC cs) (wC cs ad) yX4_restart cX4_restart 4 1 [.ref (ad 43), .int p1, .int p2] M M' := by
  refine px_ofV (by decide +kernel) (Nat.le_of_ble_eq_true rfl) ?_
  intro p e s m below meth c A ls X hr hlk hml w hl
  have hl : lv_has ls 4 [(0, .ref (ad 43)), (1, .int p1), (2, .int p2)] := hl
  unfold fC_Timers_restart at hf
  refine lv_aload_n X.1 X.2.1 dX4_restart_0 rfl (lv_at hl 0 rfl) ?_
  refine lv_iload_n X.1 X.2.1 dX4_restart_1 rfl (lv_at hl 1 rfl) ?_
  obtain ⟨r2, e1, hf⟩ := px_bq_e hf
  refine px_cI (As := [.int p1]) (rest := []) X hml hl w (cC_Timers_find l D cs ad e1) lk_4_44 (by decide) (rcC_43 X.2.2.2.2 w) rfl (Nat.le_of_ble_eq_true rfl) dX4_restart_2 (fun H locs w => ?_)
  refine lv_istore_n (lv' := [(3, .int r2), (0, .ref (ad 43)), (1, .int p1), (2, .int p2)]) X.1 X.2.1 dX4_restart_5 rfl hl (by decide) rfl (fun ls hl => ?_)
  refine lv_iload_n X.1 X.2.1 dX4_restart_6 rfl (lv_at hl 0 rfl) ?_
  refine lv_iconst (v := (-1 : Int32)) X.1 X.2.1 dX4_restart_7 (by decide) ?_
  refine lv_icmp_eq (tgt := 25) X.1 X.2.1 dX4_restart_8 (by decide) (fun c3 => ?_) (fun c3 => ?_)
  · have hf := px_ip c3 hf
    cases hf
    exact px_retV X hr hlk w dX4_restart_25
  · have hf := px_in c3 hf
    refine lv_aload_n X.1 X.2.1 dX4_restart_11 rfl (lv_at hl 1 rfl) ?_
    refine lv_iload_n X.1 X.2.1 dX4_restart_12 rfl (lv_at hl 0 rfl) ?_
    refine lv_aload_n X.1 X.2.1 dX4_restart_13 rfl (lv_at hl 1 rfl) ?_
    refine gtC_43_4 X w dX4_restart_14 ?_
    refine lv_iload_n X.1 X.2.1 dX4_restart_17 rfl (lv_at hl 0 rfl) ?_
    obtain ⟨b4, hf⟩ := px_ck_e hf
    refine ilC_48 X w b4 dX4_restart_18 ?_
    refine lv_iconst (v := (1 : Int32)) X.1 X.2.1 dX4_restart_19 (by decide) ?_
    refine lv_iadd X.1 X.2.1 dX4_restart_20 ?_
    refine lv_iload_n X.1 X.2.1 dX4_restart_21 rfl (lv_at hl 3 rfl) ?_
    obtain ⟨M6, e5, hf⟩ := px_bq_e hf
    refine px_cV (As := [.int r2, .int ((M 48 r2.toNatClampNeg) + (1 : Int32)), .int p2]) (rest := []) X hml hl w (cC_Timers_start l D cs ad e5) lk_4_52 (by decide) (rcC_43 X.2.2.2.2 w) rfl (Nat.le_of_ble_eq_true rfl) dX4_restart_22 (fun H locs w => ?_)
    cases hf
    exact px_retV X hr hlk w dX4_restart_25
def fC_Timers_isBefore (M : px_M) (p1 p2 : Int32) : Option Int32 := px_ck p1 12 (px_ck p2 12 ((if (M 49 p1.toNatClampNeg) = (M 49 p2.toNatClampNeg) then px_ck p1 12 (px_ck p2 12 ((if (M 44 p2.toNatClampNeg) ≤ (M 44 p1.toNatClampNeg) then some (0 : Int32) else some (1 : Int32)))) else px_ck p1 12 (px_ck p2 12 ((if (M 49 p2.toNatClampNeg) ≤ (M 49 p1.toNatClampNeg) then some (0 : Int32) else some (1 : Int32)))))))
set_option maxHeartbeats 4000000 in
set_option maxRecDepth 100000 in
theorem cC_Timers_isBefore (l : Launch) (D : va_G) (cs : Nat → ClassId) (ad : Nat → Nat) {M : px_M} {p1 p2 : Int32} {r : Int32} (hf : fC_Timers_isBefore M p1 p2 = some r) : px_mI l D (tyC cs) (wC cs ad) yX4_isBefore cX4_isBefore 3 (some .boolean) 0 [.ref (ad 43), .int p1, .int p2] M r M := by
  refine px_ofI (by decide +kernel) (Nat.le_of_ble_eq_true rfl) ?_
  intro p e s m below meth c A ls X hr hlk hml w hl
  have hl : lv_has ls 3 [(0, .ref (ad 43)), (1, .int p1), (2, .int p2)] := hl
  unfold fC_Timers_isBefore at hf
  refine lv_aload_n X.1 X.2.1 dX4_isBefore_0 rfl (lv_at hl 0 rfl) ?_
  refine gtC_43_5 X w dX4_isBefore_1 ?_
  refine lv_iload_n X.1 X.2.1 dX4_isBefore_4 rfl (lv_at hl 1 rfl) ?_
  obtain ⟨b1, hf⟩ := px_ck_e hf
  refine ilC_49 X w b1 dX4_isBefore_5 ?_
  refine lv_aload_n X.1 X.2.1 dX4_isBefore_6 rfl (lv_at hl 0 rfl) ?_
  refine gtC_43_5 X w dX4_isBefore_7 ?_
  refine lv_iload_n X.1 X.2.1 dX4_isBefore_10 rfl (lv_at hl 2 rfl) ?_
  obtain ⟨b2, hf⟩ := px_ck_e hf
  refine ilC_49 X w b2 dX4_isBefore_11 ?_
  refine lv_icmp_eq (tgt := 36) X.1 X.2.1 dX4_isBefore_12 (by decide) (fun c3 => ?_) (fun c3 => ?_)
  · have hf := px_ip c3 hf
    refine lv_aload_n X.1 X.2.1 dX4_isBefore_36 rfl (lv_at hl 0 rfl) ?_
    refine gtC_43_0 X w dX4_isBefore_37 ?_
    refine lv_iload_n X.1 X.2.1 dX4_isBefore_40 rfl (lv_at hl 1 rfl) ?_
    obtain ⟨b4, hf⟩ := px_ck_e hf
    refine ilC_44 X w b4 dX4_isBefore_41 ?_
    refine lv_aload_n X.1 X.2.1 dX4_isBefore_42 rfl (lv_at hl 0 rfl) ?_
    refine gtC_43_0 X w dX4_isBefore_43 ?_
    refine lv_iload_n X.1 X.2.1 dX4_isBefore_46 rfl (lv_at hl 2 rfl) ?_
    obtain ⟨b5, hf⟩ := px_ck_e hf
    refine ilC_44 X w b5 dX4_isBefore_47 ?_
    refine lv_icmp_ge (tgt := 55) X.1 X.2.1 dX4_isBefore_48 (by decide) (fun c6 => ?_) (fun c6 => ?_)
    · have hf := px_ip c6 hf
      refine lv_iconst (v := (0 : Int32)) X.1 X.2.1 dX4_isBefore_55 (by decide) ?_
      cases hf
      exact px_retZ X hr hlk narrow_b0 w dX4_isBefore_56
    · have hf := px_in c6 hf
      refine lv_iconst (v := (1 : Int32)) X.1 X.2.1 dX4_isBefore_51 (by decide) ?_
      refine lv_goto (tgt := 56) X.1 X.2.1 dX4_isBefore_52 (by decide) ?_
      cases hf
      exact px_retZ X hr hlk narrow_b1 w dX4_isBefore_56
  · have hf := px_in c3 hf
    refine lv_aload_n X.1 X.2.1 dX4_isBefore_15 rfl (lv_at hl 0 rfl) ?_
    refine gtC_43_5 X w dX4_isBefore_16 ?_
    refine lv_iload_n X.1 X.2.1 dX4_isBefore_19 rfl (lv_at hl 1 rfl) ?_
    obtain ⟨b7, hf⟩ := px_ck_e hf
    refine ilC_49 X w b7 dX4_isBefore_20 ?_
    refine lv_aload_n X.1 X.2.1 dX4_isBefore_21 rfl (lv_at hl 0 rfl) ?_
    refine gtC_43_5 X w dX4_isBefore_22 ?_
    refine lv_iload_n X.1 X.2.1 dX4_isBefore_25 rfl (lv_at hl 2 rfl) ?_
    obtain ⟨b8, hf⟩ := px_ck_e hf
    refine ilC_49 X w b8 dX4_isBefore_26 ?_
    refine lv_icmp_ge (tgt := 34) X.1 X.2.1 dX4_isBefore_27 (by decide) (fun c9 => ?_) (fun c9 => ?_)
    · have hf := px_ip c9 hf
      refine lv_iconst (v := (0 : Int32)) X.1 X.2.1 dX4_isBefore_34 (by decide) ?_
      cases hf
      exact px_retZ X hr hlk narrow_b0 w dX4_isBefore_35
    · have hf := px_in c9 hf
      refine lv_iconst (v := (1 : Int32)) X.1 X.2.1 dX4_isBefore_30 (by decide) ?_
      refine lv_goto (tgt := 35) X.1 X.2.1 dX4_isBefore_31 (by decide) ?_
      cases hf
      exact px_retZ X hr hlk narrow_b1 w dX4_isBefore_35
theorem lk_4_64 : px_Lk RX4 64 yX4_isBefore cX4_isBefore 3 (some .boolean) 2 := ⟨px_tb (by decide +kernel) (by decide +kernel), px_tb (by decide +kernel) (by decide +kernel), px_tb (by decide +kernel) (by decide +kernel), px_tb (by decide +kernel) (by decide +kernel), px_tb (by decide +kernel) (by decide +kernel), by decide +kernel, by decide⟩
def gC_Timers_nextDue_L4 (rc : px_M → Int32 → Int32 → Int32 → Option Int32) (M : px_M) (y1 y2 y3 : Int32) : Option Int32 := (if (12 : Int32) ≤ y3 then some y2 else px_ck y3 12 ((if (M 44 y3.toNatClampNeg) = 0 then rc M y1 y2 (y3 + (1 : Int32)) else px_ck y3 12 ((if (M 51 y3.toNatClampNeg) = 0 then px_ck y3 12 ((if y1 < (M 49 y3.toNatClampNeg) then rc M y1 y2 (y3 + (1 : Int32)) else (if y2 = (-1 : Int32) then rc M y1 y3 (y3 + (1 : Int32)) else px_bq (fC_Timers_isBefore M y3 y2) (fun r10 => (if r10 = 0 then rc M y1 y2 (y3 + (1 : Int32)) else rc M y1 y3 (y3 + (1 : Int32))))))) else rc M y1 y2 (y3 + (1 : Int32)))))))
set_option maxHeartbeats 4000000 in
set_option maxRecDepth 100000 in
theorem lC_Timers_nextDue_L4 {l : Launch} {D : va_G} {cs : Nat → ClassId} {ad : Nat → Nat} {p : Program} {e : Env} {s : State} {m : MethodId} {args : Array Value} {below : List Frame} {meth : Method} {c : Code} {A : Nat → Prop} (X : px_X D (tyC cs) p s m args c cX4_nextDue yX4_nextDue.cls) (hr : meth.sig.returnType = (some .int)) (hlk : meth.locks = false) (hml : c.maxLocals = 5) : ∀ (j : Nat) (M : px_M) (y1 y2 y3 : Int32) (z : Int32), px_fx3 gC_Timers_nextDue_L4 j M y1 y2 y3 = some z → ∀ (H : Heap) (locs : List Loc) (ls : Array Slot), px_H D (wC cs ad) A s.heap M H locs → lv_has ls 5 [(0, .ref (ad 43)), (1, .int y1), (2, .int y2), (3, .int y3)] → W p l e (px_rm 1) s m args below meth c H locs 0 0 (px_QI D (tyC cs) (wC cs ad) below args s A z M) (F0 m 4 ls []) := by
  refine px_fx3_i (P := fun M y1 y2 y3 (z : Int32) => ∀ (H : Heap) (locs : List Loc) (ls : Array Slot), px_H D (wC cs ad) A s.heap M H locs → lv_has ls 5 [(0, .ref (ad 43)), (1, .int y1), (2, .int y2), (3, .int y3)] → W p l e (px_rm 1) s m args below meth c H locs 0 0 (px_QI D (tyC cs) (wC cs ad) below args s A z M) (F0 m 4 ls [])) ?_
  intro rc ih M y1 y2 y3 z hf H locs ls w hl
  unfold gC_Timers_nextDue_L4 at hf
  refine lv_iload_n X.1 X.2.1 dX4_nextDue_4 rfl (lv_at hl 3 rfl) ?_
  refine lv_bipush (v := (12 : Int32)) X.1 X.2.1 dX4_nextDue_5 (by decide) ?_
  refine lv_icmp_ge (tgt := 72) X.1 X.2.1 dX4_nextDue_7 (by decide) (fun c1 => ?_) (fun c1 => ?_)
  · have hf := px_ip c1 hf
    refine lv_iload_n X.1 X.2.1 dX4_nextDue_72 rfl (lv_at hl 2 rfl) ?_
    cases hf
    exact px_retI X hr hlk w dX4_nextDue_73
  · have hf := px_in c1 hf
    refine lv_aload_n X.1 X.2.1 dX4_nextDue_10 rfl (lv_at hl 0 rfl) ?_
    refine gtC_43_0 X w dX4_nextDue_11 ?_
    refine lv_iload_n X.1 X.2.1 dX4_nextDue_14 rfl (lv_at hl 3 rfl) ?_
    obtain ⟨b2, hf⟩ := px_ck_e hf
    refine ilC_44 X w b2 dX4_nextDue_15 ?_
    refine lv_if_eq (tgt := 42) X.1 X.2.1 dX4_nextDue_16 (by decide) (fun c3 => ?_) (fun c3 => ?_)
    · have hf := px_ip c3 hf
      refine lv_iconst (v := (0 : Int32)) X.1 X.2.1 dX4_nextDue_42 (by decide) ?_
      refine lv_istore (lv' := [(4, .int (0 : Int32)), (0, .ref (ad 43)), (1, .int y1), (2, .int y2), (3, .int y3)]) X.1 X.2.1 dX4_nextDue_43 hl (by decide) rfl (fun ls hl => ?_)
      refine lv_iload X.1 X.2.1 dX4_nextDue_45 (lv_at hl 0 rfl) ?_
      refine lv_if_eq (tgt := 66) X.1 X.2.1 dX4_nextDue_47 (by decide) (fun _ => ?_) (fun c => absurd c (by decide))
      refine lv_iinc (v := (y3 + (1 : Int32))) (lv' := [(3, .int (y3 + (1 : Int32))), (4, .int (0 : Int32)), (0, .ref (ad 43)), (1, .int y1), (2, .int y2)]) X.1 X.2.1 dX4_nextDue_66 hl (k := 4) rfl rfl (by decide) rfl (fun ls hl => ?_)
      refine lv_goto (tgt := 4) X.1 X.2.1 dX4_nextDue_69 (by decide) ?_
      exact ih M y1 y2 (y3 + (1 : Int32)) _ hf H locs ls w (lv_sub hl [2, 3, 4, 0] rfl)
    · have hf := px_in c3 hf
      refine lv_aload_n X.1 X.2.1 dX4_nextDue_19 rfl (lv_at hl 0 rfl) ?_
      refine gtC_43_7 X w dX4_nextDue_20 ?_
      refine lv_iload_n X.1 X.2.1 dX4_nextDue_23 rfl (lv_at hl 3 rfl) ?_
      obtain ⟨b4, hf⟩ := px_ck_e hf
      refine ilC_51 X w b4 dX4_nextDue_24 ?_
      refine lv_if_ne (tgt := 42) X.1 X.2.1 dX4_nextDue_25 (by decide) (fun c5 => ?_) (fun c5 => ?_)
      · have hf := px_in c5 hf
        refine lv_iconst (v := (0 : Int32)) X.1 X.2.1 dX4_nextDue_42 (by decide) ?_
        refine lv_istore (lv' := [(4, .int (0 : Int32)), (0, .ref (ad 43)), (1, .int y1), (2, .int y2), (3, .int y3)]) X.1 X.2.1 dX4_nextDue_43 hl (by decide) rfl (fun ls hl => ?_)
        refine lv_iload X.1 X.2.1 dX4_nextDue_45 (lv_at hl 0 rfl) ?_
        refine lv_if_eq (tgt := 66) X.1 X.2.1 dX4_nextDue_47 (by decide) (fun _ => ?_) (fun c => absurd c (by decide))
        refine lv_iinc (v := (y3 + (1 : Int32))) (lv' := [(3, .int (y3 + (1 : Int32))), (4, .int (0 : Int32)), (0, .ref (ad 43)), (1, .int y1), (2, .int y2)]) X.1 X.2.1 dX4_nextDue_66 hl (k := 4) rfl rfl (by decide) rfl (fun ls hl => ?_)
        refine lv_goto (tgt := 4) X.1 X.2.1 dX4_nextDue_69 (by decide) ?_
        exact ih M y1 y2 (y3 + (1 : Int32)) _ hf H locs ls w (lv_sub hl [2, 3, 4, 0] rfl)
      · have hf := px_ip c5 hf
        refine lv_aload_n X.1 X.2.1 dX4_nextDue_28 rfl (lv_at hl 0 rfl) ?_
        refine gtC_43_5 X w dX4_nextDue_29 ?_
        refine lv_iload_n X.1 X.2.1 dX4_nextDue_32 rfl (lv_at hl 3 rfl) ?_
        obtain ⟨b6, hf⟩ := px_ck_e hf
        refine ilC_49 X w b6 dX4_nextDue_33 ?_
        refine lv_iload_n X.1 X.2.1 dX4_nextDue_34 rfl (lv_at hl 1 rfl) ?_
        refine lv_icmp_gt (tgt := 42) X.1 X.2.1 dX4_nextDue_35 (by decide) (fun c7 => ?_) (fun c7 => ?_)
        · have hf := px_ip c7 hf
          refine lv_iconst (v := (0 : Int32)) X.1 X.2.1 dX4_nextDue_42 (by decide) ?_
          refine lv_istore (lv' := [(4, .int (0 : Int32)), (0, .ref (ad 43)), (1, .int y1), (2, .int y2), (3, .int y3)]) X.1 X.2.1 dX4_nextDue_43 hl (by decide) rfl (fun ls hl => ?_)
          refine lv_iload X.1 X.2.1 dX4_nextDue_45 (lv_at hl 0 rfl) ?_
          refine lv_if_eq (tgt := 66) X.1 X.2.1 dX4_nextDue_47 (by decide) (fun _ => ?_) (fun c => absurd c (by decide))
          refine lv_iinc (v := (y3 + (1 : Int32))) (lv' := [(3, .int (y3 + (1 : Int32))), (4, .int (0 : Int32)), (0, .ref (ad 43)), (1, .int y1), (2, .int y2)]) X.1 X.2.1 dX4_nextDue_66 hl (k := 4) rfl rfl (by decide) rfl (fun ls hl => ?_)
          refine lv_goto (tgt := 4) X.1 X.2.1 dX4_nextDue_69 (by decide) ?_
          exact ih M y1 y2 (y3 + (1 : Int32)) _ hf H locs ls w (lv_sub hl [2, 3, 4, 0] rfl)
        · have hf := px_in c7 hf
          refine lv_iconst (v := (1 : Int32)) X.1 X.2.1 dX4_nextDue_38 (by decide) ?_
          refine lv_goto (tgt := 43) X.1 X.2.1 dX4_nextDue_39 (by decide) ?_
          refine lv_istore (lv' := [(4, .int (1 : Int32)), (0, .ref (ad 43)), (1, .int y1), (2, .int y2), (3, .int y3)]) X.1 X.2.1 dX4_nextDue_43 hl (by decide) rfl (fun ls hl => ?_)
          refine lv_iload X.1 X.2.1 dX4_nextDue_45 (lv_at hl 0 rfl) ?_
          refine lv_if_eq (tgt := 66) X.1 X.2.1 dX4_nextDue_47 (by decide) (fun c => absurd c (by decide)) (fun _ => ?_)
          refine lv_iload_n X.1 X.2.1 dX4_nextDue_50 rfl (lv_at hl 3 rfl) ?_
          refine lv_iconst (v := (-1 : Int32)) X.1 X.2.1 dX4_nextDue_51 (by decide) ?_
          refine lv_icmp_eq (tgt := 64) X.1 X.2.1 dX4_nextDue_52 (by decide) (fun c8 => ?_) (fun c8 => ?_)
          · have hf := px_ip c8 hf
            refine lv_iload_n X.1 X.2.1 dX4_nextDue_64 rfl (lv_at hl 4 rfl) ?_
            refine lv_istore_n (lv' := [(2, .int y3), (4, .int (1 : Int32)), (0, .ref (ad 43)), (1, .int y1), (3, .int y3)]) X.1 X.2.1 dX4_nextDue_65 rfl hl (by decide) rfl (fun ls hl => ?_)
            refine lv_iinc (v := (y3 + (1 : Int32))) (lv' := [(3, .int (y3 + (1 : Int32))), (2, .int y3), (4, .int (1 : Int32)), (0, .ref (ad 43)), (1, .int y1)]) X.1 X.2.1 dX4_nextDue_66 hl (k := 4) rfl rfl (by decide) rfl (fun ls hl => ?_)
            refine lv_goto (tgt := 4) X.1 X.2.1 dX4_nextDue_69 (by decide) ?_
            exact ih M y1 y3 (y3 + (1 : Int32)) _ hf H locs ls w (lv_sub hl [3, 4, 1, 0] rfl)
          · have hf := px_in c8 hf
            refine lv_aload_n X.1 X.2.1 dX4_nextDue_55 rfl (lv_at hl 1 rfl) ?_
            refine lv_iload_n X.1 X.2.1 dX4_nextDue_56 rfl (lv_at hl 4 rfl) ?_
            refine lv_iload_n X.1 X.2.1 dX4_nextDue_57 rfl (lv_at hl 3 rfl) ?_
            obtain ⟨r10, e9, hf⟩ := px_bq_e hf
            refine px_cI (As := [.int y3, .int y2]) (rest := []) X hml hl w (cC_Timers_isBefore l D cs ad e9) lk_4_64 (by decide) (rcC_43 X.2.2.2.2 w) rfl (Nat.le_of_ble_eq_true rfl) dX4_nextDue_58 (fun H locs w => ?_)
            refine lv_if_eq (tgt := 66) X.1 X.2.1 dX4_nextDue_61 (by decide) (fun c11 => ?_) (fun c11 => ?_)
            · have hf := px_ip c11 hf
              refine lv_iinc (v := (y3 + (1 : Int32))) (lv' := [(3, .int (y3 + (1 : Int32))), (4, .int (1 : Int32)), (0, .ref (ad 43)), (1, .int y1), (2, .int y2)]) X.1 X.2.1 dX4_nextDue_66 hl (k := 4) rfl rfl (by decide) rfl (fun ls hl => ?_)
              refine lv_goto (tgt := 4) X.1 X.2.1 dX4_nextDue_69 (by decide) ?_
              exact ih M y1 y2 (y3 + (1 : Int32)) _ hf H locs ls w (lv_sub hl [2, 3, 4, 0] rfl)
            · have hf := px_in c11 hf
              refine lv_iload_n X.1 X.2.1 dX4_nextDue_64 rfl (lv_at hl 4 rfl) ?_
              refine lv_istore_n (lv' := [(2, .int y3), (4, .int (1 : Int32)), (0, .ref (ad 43)), (1, .int y1), (3, .int y3)]) X.1 X.2.1 dX4_nextDue_65 rfl hl (by decide) rfl (fun ls hl => ?_)
              refine lv_iinc (v := (y3 + (1 : Int32))) (lv' := [(3, .int (y3 + (1 : Int32))), (2, .int y3), (4, .int (1 : Int32)), (0, .ref (ad 43)), (1, .int y1)]) X.1 X.2.1 dX4_nextDue_66 hl (k := 4) rfl rfl (by decide) rfl (fun ls hl => ?_)
              refine lv_goto (tgt := 4) X.1 X.2.1 dX4_nextDue_69 (by decide) ?_
              exact ih M y1 y3 (y3 + (1 : Int32)) _ hf H locs ls w (lv_sub hl [3, 4, 1, 0] rfl)
def fC_Timers_nextDue (M : px_M) (p1 : Int32) : Option Int32 := px_fx3 gC_Timers_nextDue_L4 13 M p1 (-1 : Int32) (0 : Int32)
set_option maxHeartbeats 4000000 in
set_option maxRecDepth 100000 in
theorem cC_Timers_nextDue (l : Launch) (D : va_G) (cs : Nat → ClassId) (ad : Nat → Nat) {M : px_M} {p1 : Int32} {r : Int32} (hf : fC_Timers_nextDue M p1 = some r) : px_mI l D (tyC cs) (wC cs ad) yX4_nextDue cX4_nextDue 5 (some .int) 1 [.ref (ad 43), .int p1] M r M := by
  refine px_ofI (by decide +kernel) (Nat.le_of_ble_eq_true rfl) ?_
  intro p e s m below meth c A ls X hr hlk hml w hl
  have hl : lv_has ls 5 [(0, .ref (ad 43)), (1, .int p1)] := hl
  unfold fC_Timers_nextDue at hf
  refine lv_iconst (v := (-1 : Int32)) X.1 X.2.1 dX4_nextDue_0 (by decide) ?_
  refine lv_istore_n (lv' := [(2, .int (-1 : Int32)), (0, .ref (ad 43)), (1, .int p1)]) X.1 X.2.1 dX4_nextDue_1 rfl hl (by decide) rfl (fun ls hl => ?_)
  refine lv_iconst (v := (0 : Int32)) X.1 X.2.1 dX4_nextDue_2 (by decide) ?_
  refine lv_istore_n (lv' := [(3, .int (0 : Int32)), (2, .int (-1 : Int32)), (0, .ref (ad 43)), (1, .int p1)]) X.1 X.2.1 dX4_nextDue_3 rfl hl (by decide) rfl (fun ls hl => ?_)
  exact lC_Timers_nextDue_L4 X hr hlk hml 13 M p1 (-1 : Int32) (0 : Int32) _ hf _ _ ls w (lv_sub hl [2, 3, 1, 0] rfl)
theorem lk_4_56 : px_Lk RX4 56 yX4_nextDue cX4_nextDue 5 (some .int) 1 := ⟨px_tb (by decide +kernel) (by decide +kernel), px_tb (by decide +kernel) (by decide +kernel), px_tb (by decide +kernel) (by decide +kernel), px_tb (by decide +kernel) (by decide +kernel), px_tb (by decide +kernel) (by decide +kernel), by decide +kernel, by decide⟩
theorem lk_4_59 : px_Lk RX4 59 yX2_put cX2_put 5 none 3 := ⟨px_tb (by decide +kernel) (by decide +kernel), px_tb (by decide +kernel) (by decide +kernel), px_tb (by decide +kernel) (by decide +kernel), px_tb (by decide +kernel) (by decide +kernel), px_tb (by decide +kernel) (by decide +kernel), by decide +kernel, by decide⟩
def gC_Timers_putTasks_L2 (rc : px_M → Int32 → Int32 → Option px_M) (M : px_M) (y1 y3 : Int32) : Option px_M := (if (12 : Int32) ≤ y3 then some M else px_bq (fC_Timers_nextDue M y1) (fun r3 => (if r3 = (-1 : Int32) then some M else px_ck r3 12 (px_bn (px_up M 51 r3.toNatClampNeg (1 : Int32)) (fun M6 => px_ck r3 12 (px_bq (fC_Line_put_12 M6 (1 : Int32) (M6 44 r3.toNatClampNeg) (0 : Int32)) (fun M9 => rc M9 y1 (y3 + (1 : Int32)))))))))
set_option maxHeartbeats 4000000 in
set_option maxRecDepth 100000 in
theorem lC_Timers_putTasks_L2 {l : Launch} {D : va_G} {cs : Nat → ClassId} {ad : Nat → Nat} {p : Program} {e : Env} {s : State} {m : MethodId} {args : Array Value} {below : List Frame} {meth : Method} {c : Code} {A : Nat → Prop} (X : px_X D (tyC cs) p s m args c cX4_putTasks yX4_putTasks.cls) (hr : meth.sig.returnType = none) (hlk : meth.locks = false) (hml : c.maxLocals = 5) : ∀ (j : Nat) (M : px_M) (y1 y3 : Int32) (z : px_M), px_fx2 gC_Timers_putTasks_L2 j M y1 y3 = some z → ∀ (H : Heap) (locs : List Loc) (ls : Array Slot), px_H D (wC cs ad) A s.heap M H locs → lv_has ls 5 [(0, .ref (ad 43)), (2, .ref (ad 12)), (1, .int y1), (3, .int y3)] → W p l e (px_rm 2) s m args below meth c H locs 0 0 (px_QV D (tyC cs) (wC cs ad) below args s A z) (F0 m 2 ls []) := by
  refine px_fx2_i (P := fun M y1 y3 (z : px_M) => ∀ (H : Heap) (locs : List Loc) (ls : Array Slot), px_H D (wC cs ad) A s.heap M H locs → lv_has ls 5 [(0, .ref (ad 43)), (2, .ref (ad 12)), (1, .int y1), (3, .int y3)] → W p l e (px_rm 2) s m args below meth c H locs 0 0 (px_QV D (tyC cs) (wC cs ad) below args s A z) (F0 m 2 ls [])) ?_
  intro rc ih M y1 y3 z hf H locs ls w hl
  unfold gC_Timers_putTasks_L2 at hf
  refine lv_iload_n X.1 X.2.1 dX4_putTasks_2 rfl (lv_at hl 3 rfl) ?_
  refine lv_bipush (v := (12 : Int32)) X.1 X.2.1 dX4_putTasks_3 (by decide) ?_
  refine lv_icmp_ge (tgt := 49) X.1 X.2.1 dX4_putTasks_5 (by decide) (fun c1 => ?_) (fun c1 => ?_)
  · have hf := px_ip c1 hf
    cases hf
    exact px_retV X hr hlk w dX4_putTasks_49
  · have hf := px_in c1 hf
    refine lv_aload_n X.1 X.2.1 dX4_putTasks_8 rfl (lv_at hl 0 rfl) ?_
    refine lv_iload_n X.1 X.2.1 dX4_putTasks_9 rfl (lv_at hl 2 rfl) ?_
    obtain ⟨r3, e2, hf⟩ := px_bq_e hf
    refine px_cI (As := [.int y1]) (rest := []) X hml hl w (cC_Timers_nextDue l D cs ad e2) lk_4_56 (by decide) (rcC_43 X.2.2.2.2 w) rfl (Nat.le_of_ble_eq_true rfl) dX4_putTasks_10 (fun H locs w => ?_)
    refine lv_istore (lv' := [(4, .int r3), (0, .ref (ad 43)), (2, .ref (ad 12)), (1, .int y1), (3, .int y3)]) X.1 X.2.1 dX4_putTasks_13 hl (by decide) rfl (fun ls hl => ?_)
    refine lv_iload X.1 X.2.1 dX4_putTasks_15 (lv_at hl 0 rfl) ?_
    refine lv_iconst (v := (-1 : Int32)) X.1 X.2.1 dX4_putTasks_17 (by decide) ?_
    refine lv_icmp_ne (tgt := 22) X.1 X.2.1 dX4_putTasks_18 (by decide) (fun c4 => ?_) (fun c4 => ?_)
    · have hf := px_in c4 hf
      refine lv_aload_n X.1 X.2.1 dX4_putTasks_22 rfl (lv_at hl 1 rfl) ?_
      refine gtC_43_7 X w dX4_putTasks_23 ?_
      refine lv_iload X.1 X.2.1 dX4_putTasks_26 (lv_at hl 0 rfl) ?_
      refine lv_iconst (v := (1 : Int32)) X.1 X.2.1 dX4_putTasks_28 (by decide) ?_
      obtain ⟨b5, hf⟩ := px_ck_e hf
      refine isC_51 X w b5 rfl dX4_putTasks_29 (fun H locs w => ?_)
      obtain ⟨M6, eM6, hf⟩ := px_bn_e hf
      rw [← eM6] at w
      refine lv_aload_n X.1 X.2.1 dX4_putTasks_30 rfl (lv_at hl 2 rfl) ?_
      refine lv_iconst (v := (1 : Int32)) X.1 X.2.1 dX4_putTasks_31 (by decide) ?_
      refine lv_aload_n X.1 X.2.1 dX4_putTasks_32 rfl (lv_at hl 1 rfl) ?_
      refine gtC_43_0 X w dX4_putTasks_33 ?_
      refine lv_iload X.1 X.2.1 dX4_putTasks_36 (lv_at hl 0 rfl) ?_
      obtain ⟨b7, hf⟩ := px_ck_e hf
      refine ilC_44 X w b7 dX4_putTasks_38 ?_
      refine lv_iconst (v := (0 : Int32)) X.1 X.2.1 dX4_putTasks_39 (by decide) ?_
      obtain ⟨M9, e8, hf⟩ := px_bq_e hf
      refine px_cV (As := [.int (1 : Int32), .int (M6 44 r3.toNatClampNeg), .int (0 : Int32)]) (rest := []) X hml hl w (cC_Line_put_12 l D cs ad e8) lk_4_59 (by decide) (rcC_12 X.2.2.2.2 w) rfl (Nat.le_of_ble_eq_true rfl) dX4_putTasks_40 (fun H locs w => ?_)
      refine lv_iinc (v := (y3 + (1 : Int32))) (lv' := [(3, .int (y3 + (1 : Int32))), (4, .int r3), (0, .ref (ad 43)), (2, .ref (ad 12)), (1, .int y1)]) X.1 X.2.1 dX4_putTasks_43 hl (k := 4) rfl rfl (by decide) rfl (fun ls hl => ?_)
      refine lv_goto (tgt := 2) X.1 X.2.1 dX4_putTasks_46 (by decide) ?_
      exact ih M9 y1 (y3 + (1 : Int32)) _ hf H locs ls w (lv_sub hl [2, 3, 4, 0] rfl)
    · have hf := px_ip c4 hf
      cases hf
      exact px_retV X hr hlk w dX4_putTasks_21
def fC_Timers_putTasks (M : px_M) (p1 : Int32) : Option px_M := px_fx2 gC_Timers_putTasks_L2 13 M p1 (0 : Int32)
set_option maxHeartbeats 4000000 in
set_option maxRecDepth 100000 in
theorem cC_Timers_putTasks (l : Launch) (D : va_G) (cs : Nat → ClassId) (ad : Nat → Nat) {M : px_M} {p1 : Int32} {M' : px_M} (hf : fC_Timers_putTasks M p1 = some M') : px_mV l D (tyC cs) (wC cs ad) yX4_putTasks cX4_putTasks 5 2 [.ref (ad 43), .int p1, .ref (ad 12)] M M' := by
  refine px_ofV (by decide +kernel) (Nat.le_of_ble_eq_true rfl) ?_
  intro p e s m below meth c A ls X hr hlk hml w hl
  have hl : lv_has ls 5 [(0, .ref (ad 43)), (1, .int p1), (2, .ref (ad 12))] := hl
  unfold fC_Timers_putTasks at hf
  refine lv_iconst (v := (0 : Int32)) X.1 X.2.1 dX4_putTasks_0 (by decide) ?_
  refine lv_istore_n (lv' := [(3, .int (0 : Int32)), (0, .ref (ad 43)), (1, .int p1), (2, .ref (ad 12))]) X.1 X.2.1 dX4_putTasks_1 rfl hl (by decide) rfl (fun ls hl => ?_)
  exact lC_Timers_putTasks_L2 X hr hlk hml 13 M p1 (0 : Int32) _ hf _ _ ls w (lv_sub hl [1, 3, 2, 0] rfl)
end
section
def fC_Promises_size (M : px_M) : Option Int32 := some (M 32 7)
set_option maxHeartbeats 4000000 in
set_option maxRecDepth 100000 in
theorem cC_Promises_size (l : Launch) (D : va_G) (cs : Nat → ClassId) (ad : Nat → Nat) {M : px_M} {r : Int32} (hf : fC_Promises_size M = some r) : px_mI l D (tyC cs) (wC cs ad) yX3_size cX3_size 1 (some .int) 0 [.ref (ad 32)] M r M := by
  refine px_ofI (by decide +kernel) (Nat.le_of_ble_eq_true rfl) ?_
  intro p e s m below meth c A ls X hr hlk hml w hl
  have hl : lv_has ls 1 [(0, .ref (ad 32))] := hl
  unfold fC_Promises_size at hf
  refine lv_aload_n X.1 X.2.1 dX3_size_0 rfl (lv_at hl 0 rfl) ?_
  refine gtC_32_7 X w dX3_size_1 ?_
  cases hf
  exact px_retI X hr hlk w dX3_size_4
def fC_Promises_has (M : px_M) (p1 : Int32) : Option Int32 := (if p1 < 0 then some (0 : Int32) else (if (M 32 7) ≤ p1 then some (0 : Int32) else some (1 : Int32)))
set_option maxHeartbeats 4000000 in
set_option maxRecDepth 100000 in
theorem cC_Promises_has (l : Launch) (D : va_G) (cs : Nat → ClassId) (ad : Nat → Nat) {M : px_M} {p1 : Int32} {r : Int32} (hf : fC_Promises_has M p1 = some r) : px_mI l D (tyC cs) (wC cs ad) yX3_has cX3_has 2 (some .boolean) 0 [.ref (ad 32), .int p1] M r M := by
  refine px_ofI (by decide +kernel) (Nat.le_of_ble_eq_true rfl) ?_
  intro p e s m below meth c A ls X hr hlk hml w hl
  have hl : lv_has ls 2 [(0, .ref (ad 32)), (1, .int p1)] := hl
  unfold fC_Promises_has at hf
  refine lv_iload_n X.1 X.2.1 dX3_has_0 rfl (lv_at hl 1 rfl) ?_
  refine lv_if_lt (tgt := 16) X.1 X.2.1 dX3_has_1 (by decide) (fun c1 => ?_) (fun c1 => ?_)
  · have hf := px_ip c1 hf
    refine lv_iconst (v := (0 : Int32)) X.1 X.2.1 dX3_has_16 (by decide) ?_
    cases hf
    exact px_retZ X hr hlk narrow_b0 w dX3_has_17
  · have hf := px_in c1 hf
    refine lv_iload_n X.1 X.2.1 dX3_has_4 rfl (lv_at hl 1 rfl) ?_
    refine lv_aload_n X.1 X.2.1 dX3_has_5 rfl (lv_at hl 0 rfl) ?_
    refine gtC_32_7 X w dX3_has_6 ?_
    refine lv_icmp_ge (tgt := 16) X.1 X.2.1 dX3_has_9 (by decide) (fun c2 => ?_) (fun c2 => ?_)
    · have hf := px_ip c2 hf
      refine lv_iconst (v := (0 : Int32)) X.1 X.2.1 dX3_has_16 (by decide) ?_
      cases hf
      exact px_retZ X hr hlk narrow_b0 w dX3_has_17
    · have hf := px_in c2 hf
      refine lv_iconst (v := (1 : Int32)) X.1 X.2.1 dX3_has_12 (by decide) ?_
      refine lv_goto (tgt := 17) X.1 X.2.1 dX3_has_13 (by decide) ?_
      cases hf
      exact px_retZ X hr hlk narrow_b1 w dX3_has_17
def fC_Promises_isFull (M : px_M) : Option Int32 := (if (M 32 7) < (40 : Int32) then some (0 : Int32) else some (1 : Int32))
set_option maxHeartbeats 4000000 in
set_option maxRecDepth 100000 in
theorem cC_Promises_isFull (l : Launch) (D : va_G) (cs : Nat → ClassId) (ad : Nat → Nat) {M : px_M} {r : Int32} (hf : fC_Promises_isFull M = some r) : px_mI l D (tyC cs) (wC cs ad) yX3_isFull cX3_isFull 1 (some .boolean) 0 [.ref (ad 32)] M r M := by
  refine px_ofI (by decide +kernel) (Nat.le_of_ble_eq_true rfl) ?_
  intro p e s m below meth c A ls X hr hlk hml w hl
  have hl : lv_has ls 1 [(0, .ref (ad 32))] := hl
  unfold fC_Promises_isFull at hf
  refine lv_aload_n X.1 X.2.1 dX3_isFull_0 rfl (lv_at hl 0 rfl) ?_
  refine gtC_32_7 X w dX3_isFull_1 ?_
  refine lv_bipush (v := (40 : Int32)) X.1 X.2.1 dX3_isFull_4 (by decide) ?_
  refine lv_icmp_lt (tgt := 13) X.1 X.2.1 dX3_isFull_6 (by decide) (fun c1 => ?_) (fun c1 => ?_)
  · have hf := px_ip c1 hf
    refine lv_iconst (v := (0 : Int32)) X.1 X.2.1 dX3_isFull_13 (by decide) ?_
    cases hf
    exact px_retZ X hr hlk narrow_b0 w dX3_isFull_14
  · have hf := px_in c1 hf
    refine lv_iconst (v := (1 : Int32)) X.1 X.2.1 dX3_isFull_9 (by decide) ?_
    refine lv_goto (tgt := 14) X.1 X.2.1 dX3_isFull_10 (by decide) ?_
    cases hf
    exact px_retZ X hr hlk narrow_b1 w dX3_isFull_14
def fC_Promises_stateOf (M : px_M) (p1 : Int32) : Option Int32 := px_ck p1 40 (some (M 33 p1.toNatClampNeg))
set_option maxHeartbeats 4000000 in
set_option maxRecDepth 100000 in
theorem cC_Promises_stateOf (l : Launch) (D : va_G) (cs : Nat → ClassId) (ad : Nat → Nat) {M : px_M} {p1 : Int32} {r : Int32} (hf : fC_Promises_stateOf M p1 = some r) : px_mI l D (tyC cs) (wC cs ad) yX3_stateOf cX3_stateOf 2 (some .int) 0 [.ref (ad 32), .int p1] M r M := by
  refine px_ofI (by decide +kernel) (Nat.le_of_ble_eq_true rfl) ?_
  intro p e s m below meth c A ls X hr hlk hml w hl
  have hl : lv_has ls 2 [(0, .ref (ad 32)), (1, .int p1)] := hl
  unfold fC_Promises_stateOf at hf
  refine lv_aload_n X.1 X.2.1 dX3_stateOf_0 rfl (lv_at hl 0 rfl) ?_
  refine gtC_32_2 X w dX3_stateOf_1 ?_
  refine lv_iload_n X.1 X.2.1 dX3_stateOf_4 rfl (lv_at hl 1 rfl) ?_
  obtain ⟨b1, hf⟩ := px_ck_e hf
  refine ilC_33 X w b1 dX3_stateOf_5 ?_
  cases hf
  exact px_retI X hr hlk w dX3_stateOf_6
def fC_Promises_numberOf (M : px_M) (p1 : Int32) : Option Int32 := px_ck p1 40 (some (M 34 p1.toNatClampNeg))
set_option maxHeartbeats 4000000 in
set_option maxRecDepth 100000 in
theorem cC_Promises_numberOf (l : Launch) (D : va_G) (cs : Nat → ClassId) (ad : Nat → Nat) {M : px_M} {p1 : Int32} {r : Int32} (hf : fC_Promises_numberOf M p1 = some r) : px_mI l D (tyC cs) (wC cs ad) yX3_numberOf cX3_numberOf 2 (some .int) 0 [.ref (ad 32), .int p1] M r M := by
  refine px_ofI (by decide +kernel) (Nat.le_of_ble_eq_true rfl) ?_
  intro p e s m below meth c A ls X hr hlk hml w hl
  have hl : lv_has ls 2 [(0, .ref (ad 32)), (1, .int p1)] := hl
  unfold fC_Promises_numberOf at hf
  refine lv_aload_n X.1 X.2.1 dX3_numberOf_0 rfl (lv_at hl 0 rfl) ?_
  refine gtC_32_3 X w dX3_numberOf_1 ?_
  refine lv_iload_n X.1 X.2.1 dX3_numberOf_4 rfl (lv_at hl 1 rfl) ?_
  obtain ⟨b1, hf⟩ := px_ck_e hf
  refine ilC_34 X w b1 dX3_numberOf_5 ?_
  cases hf
  exact px_retI X hr hlk w dX3_numberOf_6
def fC_Promises_stateWithFlags (M : px_M) (p1 : Int32) : Option Int32 := px_ck p1 40 (px_ck p1 40 ((if (M 35 p1.toNatClampNeg) = 0 then px_ck p1 40 ((if (M 36 p1.toNatClampNeg) = 0 then some (((M 33 p1.toNatClampNeg) + (0 : Int32)) + (0 : Int32)) else some (((M 33 p1.toNatClampNeg) + (0 : Int32)) + (8 : Int32)))) else px_ck p1 40 ((if (M 36 p1.toNatClampNeg) = 0 then some (((M 33 p1.toNatClampNeg) + (4 : Int32)) + (0 : Int32)) else some (((M 33 p1.toNatClampNeg) + (4 : Int32)) + (8 : Int32)))))))
set_option maxHeartbeats 4000000 in
set_option maxRecDepth 100000 in
theorem cC_Promises_stateWithFlags (l : Launch) (D : va_G) (cs : Nat → ClassId) (ad : Nat → Nat) {M : px_M} {p1 : Int32} {r : Int32} (hf : fC_Promises_stateWithFlags M p1 = some r) : px_mI l D (tyC cs) (wC cs ad) yX3_stateWithFlags cX3_stateWithFlags 2 (some .int) 0 [.ref (ad 32), .int p1] M r M := by
  refine px_ofI (by decide +kernel) (Nat.le_of_ble_eq_true rfl) ?_
  intro p e s m below meth c A ls X hr hlk hml w hl
  have hl : lv_has ls 2 [(0, .ref (ad 32)), (1, .int p1)] := hl
  unfold fC_Promises_stateWithFlags at hf
  refine lv_aload_n X.1 X.2.1 dX3_stateWithFlags_0 rfl (lv_at hl 0 rfl) ?_
  refine gtC_32_2 X w dX3_stateWithFlags_1 ?_
  refine lv_iload_n X.1 X.2.1 dX3_stateWithFlags_4 rfl (lv_at hl 1 rfl) ?_
  obtain ⟨b1, hf⟩ := px_ck_e hf
  refine ilC_33 X w b1 dX3_stateWithFlags_5 ?_
  refine lv_aload_n X.1 X.2.1 dX3_stateWithFlags_6 rfl (lv_at hl 0 rfl) ?_
  refine gtC_32_4 X w dX3_stateWithFlags_7 ?_
  refine lv_iload_n X.1 X.2.1 dX3_stateWithFlags_10 rfl (lv_at hl 1 rfl) ?_
  obtain ⟨b2, hf⟩ := px_ck_e hf
  refine ilC_35 X w b2 dX3_stateWithFlags_11 ?_
  refine lv_if_eq (tgt := 19) X.1 X.2.1 dX3_stateWithFlags_12 (by decide) (fun c3 => ?_) (fun c3 => ?_)
  · have hf := px_ip c3 hf
    refine lv_iconst (v := (0 : Int32)) X.1 X.2.1 dX3_stateWithFlags_19 (by decide) ?_
    refine lv_iadd X.1 X.2.1 dX3_stateWithFlags_20 ?_
    refine lv_aload_n X.1 X.2.1 dX3_stateWithFlags_21 rfl (lv_at hl 0 rfl) ?_
    refine gtC_32_5 X w dX3_stateWithFlags_22 ?_
    refine lv_iload_n X.1 X.2.1 dX3_stateWithFlags_25 rfl (lv_at hl 1 rfl) ?_
    obtain ⟨b4, hf⟩ := px_ck_e hf
    refine ilC_36 X w b4 dX3_stateWithFlags_26 ?_
    refine lv_if_eq (tgt := 35) X.1 X.2.1 dX3_stateWithFlags_27 (by decide) (fun c5 => ?_) (fun c5 => ?_)
    · have hf := px_ip c5 hf
      refine lv_iconst (v := (0 : Int32)) X.1 X.2.1 dX3_stateWithFlags_35 (by decide) ?_
      refine lv_iadd X.1 X.2.1 dX3_stateWithFlags_36 ?_
      cases hf
      exact px_retI X hr hlk w dX3_stateWithFlags_37
    · have hf := px_in c5 hf
      refine lv_bipush (v := (8 : Int32)) X.1 X.2.1 dX3_stateWithFlags_30 (by decide) ?_
      refine lv_goto (tgt := 36) X.1 X.2.1 dX3_stateWithFlags_32 (by decide) ?_
      refine lv_iadd X.1 X.2.1 dX3_stateWithFlags_36 ?_
      cases hf
      exact px_retI X hr hlk w dX3_stateWithFlags_37
  · have hf := px_in c3 hf
    refine lv_iconst (v := (4 : Int32)) X.1 X.2.1 dX3_stateWithFlags_15 (by decide) ?_
    refine lv_goto (tgt := 20) X.1 X.2.1 dX3_stateWithFlags_16 (by decide) ?_
    refine lv_iadd X.1 X.2.1 dX3_stateWithFlags_20 ?_
    refine lv_aload_n X.1 X.2.1 dX3_stateWithFlags_21 rfl (lv_at hl 0 rfl) ?_
    refine gtC_32_5 X w dX3_stateWithFlags_22 ?_
    refine lv_iload_n X.1 X.2.1 dX3_stateWithFlags_25 rfl (lv_at hl 1 rfl) ?_
    obtain ⟨b6, hf⟩ := px_ck_e hf
    refine ilC_36 X w b6 dX3_stateWithFlags_26 ?_
    refine lv_if_eq (tgt := 35) X.1 X.2.1 dX3_stateWithFlags_27 (by decide) (fun c7 => ?_) (fun c7 => ?_)
    · have hf := px_ip c7 hf
      refine lv_iconst (v := (0 : Int32)) X.1 X.2.1 dX3_stateWithFlags_35 (by decide) ?_
      refine lv_iadd X.1 X.2.1 dX3_stateWithFlags_36 ?_
      cases hf
      exact px_retI X hr hlk w dX3_stateWithFlags_37
    · have hf := px_in c7 hf
      refine lv_bipush (v := (8 : Int32)) X.1 X.2.1 dX3_stateWithFlags_30 (by decide) ?_
      refine lv_goto (tgt := 36) X.1 X.2.1 dX3_stateWithFlags_32 (by decide) ?_
      refine lv_iadd X.1 X.2.1 dX3_stateWithFlags_36 ?_
      cases hf
      exact px_retI X hr hlk w dX3_stateWithFlags_37
def fC_Promises_sourceOf (M : px_M) (p1 : Int32) : Option Int32 := px_ck p1 80 (some (M 39 p1.toNatClampNeg))
set_option maxHeartbeats 4000000 in
set_option maxRecDepth 100000 in
theorem cC_Promises_sourceOf (l : Launch) (D : va_G) (cs : Nat → ClassId) (ad : Nat → Nat) {M : px_M} {p1 : Int32} {r : Int32} (hf : fC_Promises_sourceOf M p1 = some r) : px_mI l D (tyC cs) (wC cs ad) yX3_sourceOf cX3_sourceOf 2 (some .int) 0 [.ref (ad 32), .int p1] M r M := by
  refine px_ofI (by decide +kernel) (Nat.le_of_ble_eq_true rfl) ?_
  intro p e s m below meth c A ls X hr hlk hml w hl
  have hl : lv_has ls 2 [(0, .ref (ad 32)), (1, .int p1)] := hl
  unfold fC_Promises_sourceOf at hf
  refine lv_aload_n X.1 X.2.1 dX3_sourceOf_0 rfl (lv_at hl 0 rfl) ?_
  refine gtC_32_10 X w dX3_sourceOf_1 ?_
  refine lv_iload_n X.1 X.2.1 dX3_sourceOf_4 rfl (lv_at hl 1 rfl) ?_
  obtain ⟨b1, hf⟩ := px_ck_e hf
  refine ilC_39 X w b1 dX3_sourceOf_5 ?_
  cases hf
  exact px_retI X hr hlk w dX3_sourceOf_6
def fC_Promises_targetOf (M : px_M) (p1 : Int32) : Option Int32 := px_ck p1 80 (some (M 40 p1.toNatClampNeg))
set_option maxHeartbeats 4000000 in
set_option maxRecDepth 100000 in
theorem cC_Promises_targetOf (l : Launch) (D : va_G) (cs : Nat → ClassId) (ad : Nat → Nat) {M : px_M} {p1 : Int32} {r : Int32} (hf : fC_Promises_targetOf M p1 = some r) : px_mI l D (tyC cs) (wC cs ad) yX3_targetOf cX3_targetOf 2 (some .int) 0 [.ref (ad 32), .int p1] M r M := by
  refine px_ofI (by decide +kernel) (Nat.le_of_ble_eq_true rfl) ?_
  intro p e s m below meth c A ls X hr hlk hml w hl
  have hl : lv_has ls 2 [(0, .ref (ad 32)), (1, .int p1)] := hl
  unfold fC_Promises_targetOf at hf
  refine lv_aload_n X.1 X.2.1 dX3_targetOf_0 rfl (lv_at hl 0 rfl) ?_
  refine gtC_32_11 X w dX3_targetOf_1 ?_
  refine lv_iload_n X.1 X.2.1 dX3_targetOf_4 rfl (lv_at hl 1 rfl) ?_
  obtain ⟨b1, hf⟩ := px_ck_e hf
  refine ilC_40 X w b1 dX3_targetOf_5 ?_
  cases hf
  exact px_retI X hr hlk w dX3_targetOf_6
def fC_Promises_functionOf (M : px_M) (p1 : Int32) : Option Int32 := px_ck p1 80 (px_ck (M 39 p1.toNatClampNeg) 40 ((if (M 33 (M 39 p1.toNatClampNeg).toNatClampNeg) = (1 : Int32) then px_ck p1 80 (some (M 41 p1.toNatClampNeg)) else px_ck p1 80 (some (M 42 p1.toNatClampNeg)))))
set_option maxHeartbeats 4000000 in
set_option maxRecDepth 100000 in
theorem cC_Promises_functionOf (l : Launch) (D : va_G) (cs : Nat → ClassId) (ad : Nat → Nat) {M : px_M} {p1 : Int32} {r : Int32} (hf : fC_Promises_functionOf M p1 = some r) : px_mI l D (tyC cs) (wC cs ad) yX3_functionOf cX3_functionOf 3 (some .int) 0 [.ref (ad 32), .int p1] M r M := by
  refine px_ofI (by decide +kernel) (Nat.le_of_ble_eq_true rfl) ?_
  intro p e s m below meth c A ls X hr hlk hml w hl
  have hl : lv_has ls 3 [(0, .ref (ad 32)), (1, .int p1)] := hl
  unfold fC_Promises_functionOf at hf
  refine lv_aload_n X.1 X.2.1 dX3_functionOf_0 rfl (lv_at hl 0 rfl) ?_
  refine gtC_32_2 X w dX3_functionOf_1 ?_
  refine lv_aload_n X.1 X.2.1 dX3_functionOf_4 rfl (lv_at hl 0 rfl) ?_
  refine gtC_32_10 X w dX3_functionOf_5 ?_
  refine lv_iload_n X.1 X.2.1 dX3_functionOf_8 rfl (lv_at hl 1 rfl) ?_
  obtain ⟨b1, hf⟩ := px_ck_e hf
  refine ilC_39 X w b1 dX3_functionOf_9 ?_
  obtain ⟨b2, hf⟩ := px_ck_e hf
  refine ilC_33 X w b2 dX3_functionOf_10 ?_
  refine lv_iconst (v := (1 : Int32)) X.1 X.2.1 dX3_functionOf_11 (by decide) ?_
  refine lv_icmp_ne (tgt := 19) X.1 X.2.1 dX3_functionOf_12 (by decide) (fun c3 => ?_) (fun c3 => ?_)
  · have hf := px_in c3 hf
    refine lv_iconst (v := (0 : Int32)) X.1 X.2.1 dX3_functionOf_19 (by decide) ?_
    refine lv_istore_n (lv' := [(2, .int (0 : Int32)), (0, .ref (ad 32)), (1, .int p1)]) X.1 X.2.1 dX3_functionOf_20 rfl hl (by decide) rfl (fun ls hl => ?_)
    refine lv_iload_n X.1 X.2.1 dX3_functionOf_21 rfl (lv_at hl 0 rfl) ?_
    refine lv_if_eq (tgt := 34) X.1 X.2.1 dX3_functionOf_22 (by decide) (fun _ => ?_) (fun c => absurd c (by decide))
    refine lv_aload_n X.1 X.2.1 dX3_functionOf_34 rfl (lv_at hl 1 rfl) ?_
    refine gtC_32_13 X w dX3_functionOf_35 ?_
    refine lv_iload_n X.1 X.2.1 dX3_functionOf_38 rfl (lv_at hl 2 rfl) ?_
    obtain ⟨b4, hf⟩ := px_ck_e hf
    refine ilC_42 X w b4 dX3_functionOf_39 ?_
    cases hf
    exact px_retI X hr hlk w dX3_functionOf_40
  · have hf := px_ip c3 hf
    refine lv_iconst (v := (1 : Int32)) X.1 X.2.1 dX3_functionOf_15 (by decide) ?_
    refine lv_goto (tgt := 20) X.1 X.2.1 dX3_functionOf_16 (by decide) ?_
    refine lv_istore_n (lv' := [(2, .int (1 : Int32)), (0, .ref (ad 32)), (1, .int p1)]) X.1 X.2.1 dX3_functionOf_20 rfl hl (by decide) rfl (fun ls hl => ?_)
    refine lv_iload_n X.1 X.2.1 dX3_functionOf_21 rfl (lv_at hl 0 rfl) ?_
    refine lv_if_eq (tgt := 34) X.1 X.2.1 dX3_functionOf_22 (by decide) (fun c => absurd c (by decide)) (fun _ => ?_)
    refine lv_aload_n X.1 X.2.1 dX3_functionOf_25 rfl (lv_at hl 1 rfl) ?_
    refine gtC_32_12 X w dX3_functionOf_26 ?_
    refine lv_iload_n X.1 X.2.1 dX3_functionOf_29 rfl (lv_at hl 2 rfl) ?_
    obtain ⟨b5, hf⟩ := px_ck_e hf
    refine ilC_41 X w b5 dX3_functionOf_30 ?_
    refine lv_goto (tgt := 40) X.1 X.2.1 dX3_functionOf_31 (by decide) ?_
    cases hf
    exact px_retI X hr hlk w dX3_functionOf_40
def fC_Promises_make (M : px_M) : Option (Int32 × px_M) := (if (M 32 7) < (40 : Int32) then px_bn (px_up M 32 7 ((M 32 7) + (1 : Int32))) (fun M2 => some (((M2 32 7) - (1 : Int32)), M2)) else some ((-1 : Int32), M))
set_option maxHeartbeats 4000000 in
set_option maxRecDepth 100000 in
theorem cC_Promises_make (l : Launch) (D : va_G) (cs : Nat → ClassId) (ad : Nat → Nat) {M : px_M} {r : Int32} {M' : px_M} (hf : fC_Promises_make M = some (r, M')) : px_mI l D (tyC cs) (wC cs ad) yX3_make cX3_make 1 (some .int) 0 [.ref (ad 32)] M r M' := by
  refine px_ofI (by decide +kernel) (Nat.le_of_ble_eq_true rfl) ?_
  intro p e s m below meth c A ls X hr hlk hml w hl
  have hl : lv_has ls 1 [(0, .ref (ad 32))] := hl
  unfold fC_Promises_make at hf
  refine lv_aload_n X.1 X.2.1 dX3_make_0 rfl (lv_at hl 0 rfl) ?_
  refine gtC_32_7 X w dX3_make_1 ?_
  refine lv_bipush (v := (40 : Int32)) X.1 X.2.1 dX3_make_4 (by decide) ?_
  refine lv_icmp_lt (tgt := 11) X.1 X.2.1 dX3_make_6 (by decide) (fun c1 => ?_) (fun c1 => ?_)
  · have hf := px_ip c1 hf
    refine lv_aload_n X.1 X.2.1 dX3_make_11 rfl (lv_at hl 0 rfl) ?_
    refine lv_dup X.1 X.2.1 dX3_make_12 rfl ?_
    refine gtC_32_7 X w dX3_make_13 ?_
    refine lv_iconst (v := (1 : Int32)) X.1 X.2.1 dX3_make_16 (by decide) ?_
    refine lv_iadd X.1 X.2.1 dX3_make_17 ?_
    refine ptC_32_7 X w dX3_make_18 (fun H locs w => ?_)
    obtain ⟨M2, eM2, hf⟩ := px_bn_e hf
    rw [← eM2] at w
    refine lv_aload_n X.1 X.2.1 dX3_make_21 rfl (lv_at hl 0 rfl) ?_
    refine gtC_32_7 X w dX3_make_22 ?_
    refine lv_iconst (v := (1 : Int32)) X.1 X.2.1 dX3_make_25 (by decide) ?_
    refine lv_isub X.1 X.2.1 dX3_make_26 ?_
    cases hf
    exact px_retI X hr hlk w dX3_make_27
  · have hf := px_in c1 hf
    refine lv_iconst (v := (-1 : Int32)) X.1 X.2.1 dX3_make_9 (by decide) ?_
    cases hf
    exact px_retI X hr hlk w dX3_make_10
theorem lk_3_69 : px_Lk RX3 69 yX2_put cX2_put 5 none 3 := ⟨px_tb (by decide +kernel) (by decide +kernel), px_tb (by decide +kernel) (by decide +kernel), px_tb (by decide +kernel) (by decide +kernel), px_tb (by decide +kernel) (by decide +kernel), px_tb (by decide +kernel) (by decide +kernel), by decide +kernel, by decide⟩
def gC_Promises_settle_L17 (rc : px_M → Int32 → Int32 → Int32 → Int32 → Option px_M) (M : px_M) (y1 y2 y3 y4 : Int32) : Option px_M := (if (M 32 14) ≤ y4 then (if y2 = (2 : Int32) then px_ck y1 40 ((if (M 36 y1.toNatClampNeg) = 0 then (if (40 : Int32) ≤ (M 32 9) then some M else px_ck (M 32 9) 40 (px_bn (px_up M 38 (M 32 9).toNatClampNeg y1) (fun M11 => px_bn (px_up M11 32 9 ((M11 32 9) + (1 : Int32))) (fun M12 => some M12)))) else some M)) else some M) else px_ck y4 80 ((if (M 39 y4.toNatClampNeg) = y1 then px_bq (fC_Line_put_20 M (2 : Int32) y4 (0 : Int32)) (fun M16 => rc M16 y1 y2 y3 (y4 + (1 : Int32))) else rc M y1 y2 y3 (y4 + (1 : Int32)))))
set_option maxHeartbeats 4000000 in
set_option maxRecDepth 100000 in
theorem lC_Promises_settle_L17 {l : Launch} {D : va_G} {cs : Nat → ClassId} {ad : Nat → Nat} {p : Program} {e : Env} {s : State} {m : MethodId} {args : Array Value} {below : List Frame} {meth : Method} {c : Code} {A : Nat → Prop} (X : px_X D (tyC cs) p s m args c cX3_settle yX3_settle.cls) (hr : meth.sig.returnType = none) (hlk : meth.locks = false) (hml : c.maxLocals = 5) : ∀ (j : Nat) (M : px_M) (y1 y2 y3 y4 : Int32) (z : px_M), px_fx4 gC_Promises_settle_L17 j M y1 y2 y3 y4 = some z → ∀ (H : Heap) (locs : List Loc) (ls : Array Slot), px_H D (wC cs ad) A s.heap M H locs → lv_has ls 5 [(0, .ref (ad 32)), (1, .int y1), (2, .int y2), (3, .int y3), (4, .int y4)] → W p l e (px_rm 1) s m args below meth c H locs 0 0 (px_QV D (tyC cs) (wC cs ad) below args s A z) (F0 m 17 ls []) := by
  refine px_fx4_i (P := fun M y1 y2 y3 y4 (z : px_M) => ∀ (H : Heap) (locs : List Loc) (ls : Array Slot), px_H D (wC cs ad) A s.heap M H locs → lv_has ls 5 [(0, .ref (ad 32)), (1, .int y1), (2, .int y2), (3, .int y3), (4, .int y4)] → W p l e (px_rm 1) s m args below meth c H locs 0 0 (px_QV D (tyC cs) (wC cs ad) below args s A z) (F0 m 17 ls [])) ?_
  intro rc ih M y1 y2 y3 y4 z hf H locs ls w hl
  unfold gC_Promises_settle_L17 at hf
  refine lv_iload X.1 X.2.1 dX3_settle_17 (lv_at hl 4 rfl) ?_
  refine lv_aload_n X.1 X.2.1 dX3_settle_19 rfl (lv_at hl 0 rfl) ?_
  refine gtC_32_14 X w dX3_settle_20 ?_
  refine lv_icmp_ge (tgt := 54) X.1 X.2.1 dX3_settle_23 (by decide) (fun c5 => ?_) (fun c5 => ?_)
  · have hf := px_ip c5 hf
    refine lv_iload_n X.1 X.2.1 dX3_settle_54 rfl (lv_at hl 2 rfl) ?_
    refine lv_iconst (v := (2 : Int32)) X.1 X.2.1 dX3_settle_55 (by decide) ?_
    refine lv_icmp_ne (tgt := 97) X.1 X.2.1 dX3_settle_56 (by decide) (fun c6 => ?_) (fun c6 => ?_)
    · have hf := px_in c6 hf
      cases hf
      exact px_retV X hr hlk w dX3_settle_97
    · have hf := px_ip c6 hf
      refine lv_aload_n X.1 X.2.1 dX3_settle_59 rfl (lv_at hl 0 rfl) ?_
      refine gtC_32_5 X w dX3_settle_60 ?_
      refine lv_iload_n X.1 X.2.1 dX3_settle_63 rfl (lv_at hl 1 rfl) ?_
      obtain ⟨b7, hf⟩ := px_ck_e hf
      refine ilC_36 X w b7 dX3_settle_64 ?_
      refine lv_if_ne (tgt := 97) X.1 X.2.1 dX3_settle_65 (by decide) (fun c8 => ?_) (fun c8 => ?_)
      · have hf := px_in c8 hf
        cases hf
        exact px_retV X hr hlk w dX3_settle_97
      · have hf := px_ip c8 hf
        refine lv_aload_n X.1 X.2.1 dX3_settle_68 rfl (lv_at hl 0 rfl) ?_
        refine gtC_32_9 X w dX3_settle_69 ?_
        refine lv_bipush (v := (40 : Int32)) X.1 X.2.1 dX3_settle_72 (by decide) ?_
        refine lv_icmp_ge (tgt := 97) X.1 X.2.1 dX3_settle_74 (by decide) (fun c9 => ?_) (fun c9 => ?_)
        · have hf := px_ip c9 hf
          cases hf
          exact px_retV X hr hlk w dX3_settle_97
        · have hf := px_in c9 hf
          refine lv_aload_n X.1 X.2.1 dX3_settle_77 rfl (lv_at hl 0 rfl) ?_
          refine gtC_32_8 X w dX3_settle_78 ?_
          refine lv_aload_n X.1 X.2.1 dX3_settle_81 rfl (lv_at hl 0 rfl) ?_
          refine gtC_32_9 X w dX3_settle_82 ?_
          refine lv_iload_n X.1 X.2.1 dX3_settle_85 rfl (lv_at hl 1 rfl) ?_
          obtain ⟨b10, hf⟩ := px_ck_e hf
          refine isC_38 X w b10 dX3_settle_86 (fun H locs w => ?_)
          obtain ⟨M11, eM11, hf⟩ := px_bn_e hf
          rw [← eM11] at w
          refine lv_aload_n X.1 X.2.1 dX3_settle_87 rfl (lv_at hl 0 rfl) ?_
          refine lv_dup X.1 X.2.1 dX3_settle_88 rfl ?_
          refine gtC_32_9 X w dX3_settle_89 ?_
          refine lv_iconst (v := (1 : Int32)) X.1 X.2.1 dX3_settle_92 (by decide) ?_
          refine lv_iadd X.1 X.2.1 dX3_settle_93 ?_
          refine ptC_32_9 X w dX3_settle_94 (fun H locs w => ?_)
          obtain ⟨M12, eM12, hf⟩ := px_bn_e hf
          rw [← eM12] at w
          cases hf
          exact px_retV X hr hlk w dX3_settle_97
  · have hf := px_in c5 hf
    refine lv_aload_n X.1 X.2.1 dX3_settle_26 rfl (lv_at hl 0 rfl) ?_
    refine gtC_32_10 X w dX3_settle_27 ?_
    refine lv_iload X.1 X.2.1 dX3_settle_30 (lv_at hl 4 rfl) ?_
    obtain ⟨b13, hf⟩ := px_ck_e hf
    refine ilC_39 X w b13 dX3_settle_32 ?_
    refine lv_iload_n X.1 X.2.1 dX3_settle_33 rfl (lv_at hl 1 rfl) ?_
    refine lv_icmp_ne (tgt := 48) X.1 X.2.1 dX3_settle_34 (by decide) (fun c14 => ?_) (fun c14 => ?_)
    · have hf := px_in c14 hf
      refine lv_iinc (v := (y4 + (1 : Int32))) (lv' := [(4, .int (y4 + (1 : Int32))), (0, .ref (ad 32)), (1, .int y1), (2, .int y2), (3, .int y3)]) X.1 X.2.1 dX3_settle_48 hl (k := 4) rfl rfl (by decide) rfl (fun ls hl => ?_)
      refine lv_goto (tgt := 17) X.1 X.2.1 dX3_settle_51 (by decide) ?_
      exact ih M y1 y2 y3 (y4 + (1 : Int32)) _ hf H locs ls w (lv_sub hl [1, 2, 3, 4, 0] rfl)
    · have hf := px_ip c14 hf
      refine lv_aload_n X.1 X.2.1 dX3_settle_37 rfl (lv_at hl 0 rfl) ?_
      refine gtC_32_0 X w dX3_settle_38 ?_
      refine lv_iconst (v := (2 : Int32)) X.1 X.2.1 dX3_settle_41 (by decide) ?_
      refine lv_iload X.1 X.2.1 dX3_settle_42 (lv_at hl 4 rfl) ?_
      refine lv_iconst (v := (0 : Int32)) X.1 X.2.1 dX3_settle_44 (by decide) ?_
      obtain ⟨M16, e15, hf⟩ := px_bq_e hf
      refine px_cV (As := [.int (2 : Int32), .int y4, .int (0 : Int32)]) (rest := []) X hml hl w (cC_Line_put_20 l D cs ad e15) lk_3_69 (by decide) (rcC_20 X.2.2.2.2 w) rfl (Nat.le_of_ble_eq_true rfl) dX3_settle_45 (fun H locs w => ?_)
      refine lv_iinc (v := (y4 + (1 : Int32))) (lv' := [(4, .int (y4 + (1 : Int32))), (0, .ref (ad 32)), (1, .int y1), (2, .int y2), (3, .int y3)]) X.1 X.2.1 dX3_settle_48 hl (k := 4) rfl rfl (by decide) rfl (fun ls hl => ?_)
      refine lv_goto (tgt := 17) X.1 X.2.1 dX3_settle_51 (by decide) ?_
      exact ih M16 y1 y2 y3 (y4 + (1 : Int32)) _ hf H locs ls w (lv_sub hl [1, 2, 3, 4, 0] rfl)
def fC_Promises_settle (M : px_M) (p1 p2 p3 : Int32) : Option px_M := px_ck p1 40 (px_bn (px_up M 33 p1.toNatClampNeg p2) (fun M2 => px_ck p1 40 (px_bn (px_up M2 34 p1.toNatClampNeg p3) (fun M4 => px_fx4 gC_Promises_settle_L17 81 M4 p1 p2 p3 (0 : Int32)))))
set_option maxHeartbeats 4000000 in
set_option maxRecDepth 100000 in
theorem cC_Promises_settle (l : Launch) (D : va_G) (cs : Nat → ClassId) (ad : Nat → Nat) {M : px_M} {p1 p2 p3 : Int32} {M' : px_M} (hf : fC_Promises_settle M p1 p2 p3 = some M') : px_mV l D (tyC cs) (wC cs ad) yX3_settle cX3_settle 5 1 [.ref (ad 32), .int p1, .int p2, .int p3] M M' := by
  refine px_ofV (by decide +kernel) (Nat.le_of_ble_eq_true rfl) ?_
  intro p e s m below meth c A ls X hr hlk hml w hl
  have hl : lv_has ls 5 [(0, .ref (ad 32)), (1, .int p1), (2, .int p2), (3, .int p3)] := hl
  unfold fC_Promises_settle at hf
  refine lv_aload_n X.1 X.2.1 dX3_settle_0 rfl (lv_at hl 0 rfl) ?_
  refine gtC_32_2 X w dX3_settle_1 ?_
  refine lv_iload_n X.1 X.2.1 dX3_settle_4 rfl (lv_at hl 1 rfl) ?_
  refine lv_iload_n X.1 X.2.1 dX3_settle_5 rfl (lv_at hl 2 rfl) ?_
  obtain ⟨b1, hf⟩ := px_ck_e hf
  refine isC_33 X w b1 dX3_settle_6 (fun H locs w => ?_)
  obtain ⟨M2, eM2, hf⟩ := px_bn_e hf
  rw [← eM2] at w
  refine lv_aload_n X.1 X.2.1 dX3_settle_7 rfl (lv_at hl 0 rfl) ?_
  refine gtC_32_3 X w dX3_settle_8 ?_
  refine lv_iload_n X.1 X.2.1 dX3_settle_11 rfl (lv_at hl 1 rfl) ?_
  refine lv_iload_n X.1 X.2.1 dX3_settle_12 rfl (lv_at hl 3 rfl) ?_
  obtain ⟨b3, hf⟩ := px_ck_e hf
  refine isC_34 X w b3 dX3_settle_13 (fun H locs w => ?_)
  obtain ⟨M4, eM4, hf⟩ := px_bn_e hf
  rw [← eM4] at w
  refine lv_iconst (v := (0 : Int32)) X.1 X.2.1 dX3_settle_14 (by decide) ?_
  refine lv_istore (lv' := [(4, .int (0 : Int32)), (0, .ref (ad 32)), (1, .int p1), (2, .int p2), (3, .int p3)]) X.1 X.2.1 dX3_settle_15 hl (by decide) rfl (fun ls hl => ?_)
  exact lC_Promises_settle_L17 X hr hlk hml 81 M4 p1 p2 p3 (0 : Int32) _ hf _ _ ls w (lv_sub hl [1, 2, 3, 4, 0] rfl)
theorem lk_3_61 : px_Lk RX3 61 yX3_has cX3_has 2 (some .boolean) 1 := ⟨px_tb (by decide +kernel) (by decide +kernel), px_tb (by decide +kernel) (by decide +kernel), px_tb (by decide +kernel) (by decide +kernel), px_tb (by decide +kernel) (by decide +kernel), px_tb (by decide +kernel) (by decide +kernel), by decide +kernel, by decide⟩
theorem lk_3_65 : px_Lk RX3 65 yX3_settle cX3_settle 5 none 3 := ⟨px_tb (by decide +kernel) (by decide +kernel), px_tb (by decide +kernel) (by decide +kernel), px_tb (by decide +kernel) (by decide +kernel), px_tb (by decide +kernel) (by decide +kernel), px_tb (by decide +kernel) (by decide +kernel), by decide +kernel, by decide⟩
def fC_Promises_resolveOrReject (M : px_M) (p1 p2 p3 : Int32) : Option px_M := px_bq (fC_Promises_has M p1) (fun r2 => (if r2 = 0 then some M else px_ck p1 40 ((if (M 35 p1.toNatClampNeg) = 0 then px_ck p1 40 (px_bn (px_up M 35 p1.toNatClampNeg (1 : Int32)) (fun M7 => px_bq (fC_Promises_settle M7 p1 p2 p3) (fun M9 => some M9))) else some M))))
set_option maxHeartbeats 4000000 in
set_option maxRecDepth 100000 in
theorem cC_Promises_resolveOrReject (l : Launch) (D : va_G) (cs : Nat → ClassId) (ad : Nat → Nat) {M : px_M} {p1 p2 p3 : Int32} {M' : px_M} (hf : fC_Promises_resolveOrReject M p1 p2 p3 = some M') : px_mV l D (tyC cs) (wC cs ad) yX3_resolveOrReject cX3_resolveOrReject 4 2 [.ref (ad 32), .int p1, .int p2, .int p3] M M' := by
  refine px_ofV (by decide +kernel) (Nat.le_of_ble_eq_true rfl) ?_
  intro p e s m below meth c A ls X hr hlk hml w hl
  have hl : lv_has ls 4 [(0, .ref (ad 32)), (1, .int p1), (2, .int p2), (3, .int p3)] := hl
  unfold fC_Promises_resolveOrReject at hf
  refine lv_aload_n X.1 X.2.1 dX3_resolveOrReject_0 rfl (lv_at hl 0 rfl) ?_
  refine lv_iload_n X.1 X.2.1 dX3_resolveOrReject_1 rfl (lv_at hl 1 rfl) ?_
  obtain ⟨r2, e1, hf⟩ := px_bq_e hf
  refine px_cI (As := [.int p1]) (rest := []) X hml hl w (cC_Promises_has l D cs ad e1) lk_3_61 (by decide) (rcC_32 X.2.2.2.2 w) rfl (Nat.le_of_ble_eq_true rfl) dX3_resolveOrReject_2 (fun H locs w => ?_)
  refine lv_if_eq (tgt := 31) X.1 X.2.1 dX3_resolveOrReject_5 (by decide) (fun c3 => ?_) (fun c3 => ?_)
  · have hf := px_ip c3 hf
    cases hf
    exact px_retV X hr hlk w dX3_resolveOrReject_31
  · have hf := px_in c3 hf
    refine lv_aload_n X.1 X.2.1 dX3_resolveOrReject_8 rfl (lv_at hl 0 rfl) ?_
    refine gtC_32_4 X w dX3_resolveOrReject_9 ?_
    refine lv_iload_n X.1 X.2.1 dX3_resolveOrReject_12 rfl (lv_at hl 1 rfl) ?_
    obtain ⟨b4, hf⟩ := px_ck_e hf
    refine ilC_35 X w b4 dX3_resolveOrReject_13 ?_
    refine lv_if_ne (tgt := 31) X.1 X.2.1 dX3_resolveOrReject_14 (by decide) (fun c5 => ?_) (fun c5 => ?_)
    · have hf := px_in c5 hf
      cases hf
      exact px_retV X hr hlk w dX3_resolveOrReject_31
    · have hf := px_ip c5 hf
      refine lv_aload_n X.1 X.2.1 dX3_resolveOrReject_17 rfl (lv_at hl 0 rfl) ?_
      refine gtC_32_4 X w dX3_resolveOrReject_18 ?_
      refine lv_iload_n X.1 X.2.1 dX3_resolveOrReject_21 rfl (lv_at hl 1 rfl) ?_
      refine lv_iconst (v := (1 : Int32)) X.1 X.2.1 dX3_resolveOrReject_22 (by decide) ?_
      obtain ⟨b6, hf⟩ := px_ck_e hf
      refine isC_35 X w b6 rfl dX3_resolveOrReject_23 (fun H locs w => ?_)
      obtain ⟨M7, eM7, hf⟩ := px_bn_e hf
      rw [← eM7] at w
      refine lv_aload_n X.1 X.2.1 dX3_resolveOrReject_24 rfl (lv_at hl 0 rfl) ?_
      refine lv_iload_n X.1 X.2.1 dX3_resolveOrReject_25 rfl (lv_at hl 1 rfl) ?_
      refine lv_iload_n X.1 X.2.1 dX3_resolveOrReject_26 rfl (lv_at hl 2 rfl) ?_
      refine lv_iload_n X.1 X.2.1 dX3_resolveOrReject_27 rfl (lv_at hl 3 rfl) ?_
      obtain ⟨M9, e8, hf⟩ := px_bq_e hf
      refine px_cV (As := [.int p1, .int p2, .int p3]) (rest := []) X hml hl w (cC_Promises_settle l D cs ad e8) lk_3_65 (by decide) (rcC_32 X.2.2.2.2 w) rfl (Nat.le_of_ble_eq_true rfl) dX3_resolveOrReject_28 (fun H locs w => ?_)
      cases hf
      exact px_retV X hr hlk w dX3_resolveOrReject_31
def fC_Promises_follow (M : px_M) (p1 p2 : Int32) : Option px_M := px_bq (fC_Promises_has M p1) (fun r2 => (if r2 = 0 then some M else px_bq (fC_Promises_has M p2) (fun r5 => (if r5 = 0 then some M else px_ck p1 40 ((if (M 35 p1.toNatClampNeg) = 0 then px_ck p1 40 (px_bn (px_up M 35 p1.toNatClampNeg (1 : Int32)) (fun M10 => (if p1 = p2 then px_bq (fC_Promises_settle M10 p1 (2 : Int32) (-3 : Int32)) (fun M15 => some M15) else px_bq (fC_Line_put_20 M10 (3 : Int32) p1 p2) (fun M13 => some M13)))) else some M))))))
set_option maxHeartbeats 4000000 in
set_option maxRecDepth 100000 in
theorem cC_Promises_follow (l : Launch) (D : va_G) (cs : Nat → ClassId) (ad : Nat → Nat) {M : px_M} {p1 p2 : Int32} {M' : px_M} (hf : fC_Promises_follow M p1 p2 = some M') : px_mV l D (tyC cs) (wC cs ad) yX3_follow cX3_follow 3 2 [.ref (ad 32), .int p1, .int p2] M M' := by
  refine px_ofV (by decide +kernel) (Nat.le_of_ble_eq_true rfl) ?_
  intro p e s m below meth c A ls X hr hlk hml w hl
  have hl : lv_has ls 3 [(0, .ref (ad 32)), (1, .int p1), (2, .int p2)] := hl
  unfold fC_Promises_follow at hf
  refine lv_aload_n X.1 X.2.1 dX3_follow_0 rfl (lv_at hl 0 rfl) ?_
  refine lv_iload_n X.1 X.2.1 dX3_follow_1 rfl (lv_at hl 1 rfl) ?_
  obtain ⟨r2, e1, hf⟩ := px_bq_e hf
  refine px_cI (As := [.int p1]) (rest := []) X hml hl w (cC_Promises_has l D cs ad e1) lk_3_61 (by decide) (rcC_32 X.2.2.2.2 w) rfl (Nat.le_of_ble_eq_true rfl) dX3_follow_2 (fun H locs w => ?_)
  refine lv_if_eq (tgt := 25) X.1 X.2.1 dX3_follow_5 (by decide) (fun c3 => ?_) (fun c3 => ?_)
  · have hf := px_ip c3 hf
    cases hf
    exact px_retV X hr hlk w dX3_follow_25
  · have hf := px_in c3 hf
    refine lv_aload_n X.1 X.2.1 dX3_follow_8 rfl (lv_at hl 0 rfl) ?_
    refine lv_iload_n X.1 X.2.1 dX3_follow_9 rfl (lv_at hl 2 rfl) ?_
    obtain ⟨r5, e4, hf⟩ := px_bq_e hf
    refine px_cI (As := [.int p2]) (rest := []) X hml hl w (cC_Promises_has l D cs ad e4) lk_3_61 (by decide) (rcC_32 X.2.2.2.2 w) rfl (Nat.le_of_ble_eq_true rfl) dX3_follow_10 (fun H locs w => ?_)
    refine lv_if_eq (tgt := 25) X.1 X.2.1 dX3_follow_13 (by decide) (fun c6 => ?_) (fun c6 => ?_)
    · have hf := px_ip c6 hf
      cases hf
      exact px_retV X hr hlk w dX3_follow_25
    · have hf := px_in c6 hf
      refine lv_aload_n X.1 X.2.1 dX3_follow_16 rfl (lv_at hl 0 rfl) ?_
      refine gtC_32_4 X w dX3_follow_17 ?_
      refine lv_iload_n X.1 X.2.1 dX3_follow_20 rfl (lv_at hl 1 rfl) ?_
      obtain ⟨b7, hf⟩ := px_ck_e hf
      refine ilC_35 X w b7 dX3_follow_21 ?_
      refine lv_if_eq (tgt := 26) X.1 X.2.1 dX3_follow_22 (by decide) (fun c8 => ?_) (fun c8 => ?_)
      · have hf := px_ip c8 hf
        refine lv_aload_n X.1 X.2.1 dX3_follow_26 rfl (lv_at hl 0 rfl) ?_
        refine gtC_32_4 X w dX3_follow_27 ?_
        refine lv_iload_n X.1 X.2.1 dX3_follow_30 rfl (lv_at hl 1 rfl) ?_
        refine lv_iconst (v := (1 : Int32)) X.1 X.2.1 dX3_follow_31 (by decide) ?_
        obtain ⟨b9, hf⟩ := px_ck_e hf
        refine isC_35 X w b9 rfl dX3_follow_32 (fun H locs w => ?_)
        obtain ⟨M10, eM10, hf⟩ := px_bn_e hf
        rw [← eM10] at w
        refine lv_iload_n X.1 X.2.1 dX3_follow_33 rfl (lv_at hl 1 rfl) ?_
        refine lv_iload_n X.1 X.2.1 dX3_follow_34 rfl (lv_at hl 2 rfl) ?_
        refine lv_icmp_ne (tgt := 49) X.1 X.2.1 dX3_follow_35 (by decide) (fun c11 => ?_) (fun c11 => ?_)
        · have hf := px_in c11 hf
          refine lv_aload_n X.1 X.2.1 dX3_follow_49 rfl (lv_at hl 0 rfl) ?_
          refine gtC_32_0 X w dX3_follow_50 ?_
          refine lv_iconst (v := (3 : Int32)) X.1 X.2.1 dX3_follow_53 (by decide) ?_
          refine lv_iload_n X.1 X.2.1 dX3_follow_54 rfl (lv_at hl 1 rfl) ?_
          refine lv_iload_n X.1 X.2.1 dX3_follow_55 rfl (lv_at hl 2 rfl) ?_
          obtain ⟨M13, e12, hf⟩ := px_bq_e hf
          refine px_cV (As := [.int (3 : Int32), .int p1, .int p2]) (rest := []) X hml hl w (cC_Line_put_20 l D cs ad e12) lk_3_69 (by decide) (rcC_20 X.2.2.2.2 w) rfl (Nat.le_of_ble_eq_true rfl) dX3_follow_56 (fun H locs w => ?_)
          cases hf
          exact px_retV X hr hlk w dX3_follow_59
        · have hf := px_ip c11 hf
          refine lv_aload_n X.1 X.2.1 dX3_follow_38 rfl (lv_at hl 0 rfl) ?_
          refine lv_iload_n X.1 X.2.1 dX3_follow_39 rfl (lv_at hl 1 rfl) ?_
          refine lv_iconst (v := (2 : Int32)) X.1 X.2.1 dX3_follow_40 (by decide) ?_
          refine lv_bipush (v := (-3 : Int32)) X.1 X.2.1 dX3_follow_41 (by decide) ?_
          obtain ⟨M15, e14, hf⟩ := px_bq_e hf
          refine px_cV (As := [.int p1, .int (2 : Int32), .int (-3 : Int32)]) (rest := []) X hml hl w (cC_Promises_settle l D cs ad e14) lk_3_65 (by decide) (rcC_32 X.2.2.2.2 w) rfl (Nat.le_of_ble_eq_true rfl) dX3_follow_43 (fun H locs w => ?_)
          refine lv_goto (tgt := 59) X.1 X.2.1 dX3_follow_46 (by decide) ?_
          cases hf
          exact px_retV X hr hlk w dX3_follow_59
      · have hf := px_in c8 hf
        cases hf
        exact px_retV X hr hlk w dX3_follow_25
theorem lk_3_74 : px_Lk RX3 74 yX1_keep cX1_keep 2 none 1 := ⟨px_tb (by decide +kernel) (by decide +kernel), px_tb (by decide +kernel) (by decide +kernel), px_tb (by decide +kernel) (by decide +kernel), px_tb (by decide +kernel) (by decide +kernel), px_tb (by decide +kernel) (by decide +kernel), by decide +kernel, by decide⟩
def fC_Promises_react (M : px_M) (p1 p2 p3 p4 : Int32) : Option px_M := px_bq (fC_Promises_has M p1) (fun r2 => (if r2 = 0 then some M else (if (M 32 14) < (80 : Int32) then px_ck p1 40 ((if (M 37 p1.toNatClampNeg) = 0 then px_ck p1 40 (px_bn (px_up M 36 p1.toNatClampNeg (1 : Int32)) (fun M8 => px_ck (M8 32 14) 80 (px_bn (px_up M8 39 (M8 32 14).toNatClampNeg p1) (fun M10 => px_ck (M10 32 14) 80 (px_bn (px_up M10 40 (M10 32 14).toNatClampNeg p4) (fun M12 => px_ck (M12 32 14) 80 (px_bn (px_up M12 41 (M12 32 14).toNatClampNeg p2) (fun M14 => px_ck (M14 32 14) 80 (px_bn (px_up M14 42 (M14 32 14).toNatClampNeg p3) (fun M16 => px_ck p1 40 ((if (M16 33 p1.toNatClampNeg) = 0 then px_bn (px_up M16 32 14 ((M16 32 14) + (1 : Int32))) (fun M19 => some M19) else px_bq (fC_Line_put_20 M16 (2 : Int32) (M16 32 14) (0 : Int32)) (fun M21 => px_bn (px_up M21 32 14 ((M21 32 14) + (1 : Int32))) (fun M22 => some M22)))))))))))))) else px_ck p1 40 ((if (M 36 p1.toNatClampNeg) = 0 then px_bq (fC_Journal_keep_30 M ((30000 : Int32) + p1)) (fun M42 => px_ck p1 40 (px_bn (px_up M42 36 p1.toNatClampNeg (1 : Int32)) (fun M44 => px_ck (M44 32 14) 80 (px_bn (px_up M44 39 (M44 32 14).toNatClampNeg p1) (fun M46 => px_ck (M46 32 14) 80 (px_bn (px_up M46 40 (M46 32 14).toNatClampNeg p4) (fun M48 => px_ck (M48 32 14) 80 (px_bn (px_up M48 41 (M48 32 14).toNatClampNeg p2) (fun M50 => px_ck (M50 32 14) 80 (px_bn (px_up M50 42 (M50 32 14).toNatClampNeg p3) (fun M52 => px_ck p1 40 ((if (M52 33 p1.toNatClampNeg) = 0 then px_bn (px_up M52 32 14 ((M52 32 14) + (1 : Int32))) (fun M55 => some M55) else px_bq (fC_Line_put_20 M52 (2 : Int32) (M52 32 14) (0 : Int32)) (fun M57 => px_bn (px_up M57 32 14 ((M57 32 14) + (1 : Int32))) (fun M58 => some M58))))))))))))))) else px_ck p1 40 (px_bn (px_up M 36 p1.toNatClampNeg (1 : Int32)) (fun M26 => px_ck (M26 32 14) 80 (px_bn (px_up M26 39 (M26 32 14).toNatClampNeg p1) (fun M28 => px_ck (M28 32 14) 80 (px_bn (px_up M28 40 (M28 32 14).toNatClampNeg p4) (fun M30 => px_ck (M30 32 14) 80 (px_bn (px_up M30 41 (M30 32 14).toNatClampNeg p2) (fun M32 => px_ck (M32 32 14) 80 (px_bn (px_up M32 42 (M32 32 14).toNatClampNeg p3) (fun M34 => px_ck p1 40 ((if (M34 33 p1.toNatClampNeg) = 0 then px_bn (px_up M34 32 14 ((M34 32 14) + (1 : Int32))) (fun M37 => some M37) else px_bq (fC_Line_put_20 M34 (2 : Int32) (M34 32 14) (0 : Int32)) (fun M39 => px_bn (px_up M39 32 14 ((M39 32 14) + (1 : Int32))) (fun M40 => some M40)))))))))))))))))) else some M)))
set_option maxHeartbeats 4000000 in
set_option maxRecDepth 100000 in
theorem cC_Promises_react (l : Launch) (D : va_G) (cs : Nat → ClassId) (ad : Nat → Nat) {M : px_M} {p1 p2 p3 p4 : Int32} {M' : px_M} (hf : fC_Promises_react M p1 p2 p3 p4 = some M') : px_mV l D (tyC cs) (wC cs ad) yX3_react cX3_react 5 1 [.ref (ad 32), .int p1, .int p2, .int p3, .int p4] M M' := by
  refine px_ofV (by decide +kernel) (Nat.le_of_ble_eq_true rfl) ?_
  intro p e s m below meth c A ls X hr hlk hml w hl
  have hl : lv_has ls 5 [(0, .ref (ad 32)), (1, .int p1), (2, .int p2), (3, .int p3), (4, .int p4)] := hl
  unfold fC_Promises_react at hf
  refine lv_aload_n X.1 X.2.1 dX3_react_0 rfl (lv_at hl 0 rfl) ?_
  refine lv_iload_n X.1 X.2.1 dX3_react_1 rfl (lv_at hl 1 rfl) ?_
  obtain ⟨r2, e1, hf⟩ := px_bq_e hf
  refine px_cI (As := [.int p1]) (rest := []) X hml hl w (cC_Promises_has l D cs ad e1) lk_3_61 (by decide) (rcC_32 X.2.2.2.2 w) rfl (Nat.le_of_ble_eq_true rfl) dX3_react_2 (fun H locs w => ?_)
  refine lv_if_eq (tgt := 17) X.1 X.2.1 dX3_react_5 (by decide) (fun c3 => ?_) (fun c3 => ?_)
  · have hf := px_ip c3 hf
    cases hf
    exact px_retV X hr hlk w dX3_react_17
  · have hf := px_in c3 hf
    refine lv_aload_n X.1 X.2.1 dX3_react_8 rfl (lv_at hl 0 rfl) ?_
    refine gtC_32_14 X w dX3_react_9 ?_
    refine lv_bipush (v := (80 : Int32)) X.1 X.2.1 dX3_react_12 (by decide) ?_
    refine lv_icmp_lt (tgt := 18) X.1 X.2.1 dX3_react_14 (by decide) (fun c4 => ?_) (fun c4 => ?_)
    · have hf := px_ip c4 hf
      refine lv_aload_n X.1 X.2.1 dX3_react_18 rfl (lv_at hl 0 rfl) ?_
      refine gtC_32_6 X w dX3_react_19 ?_
      refine lv_iload_n X.1 X.2.1 dX3_react_22 rfl (lv_at hl 1 rfl) ?_
      obtain ⟨b5, hf⟩ := px_ck_e hf
      refine ilC_37 X w b5 dX3_react_23 ?_
      refine lv_if_eq (tgt := 48) X.1 X.2.1 dX3_react_24 (by decide) (fun c6 => ?_) (fun c6 => ?_)
      · have hf := px_ip c6 hf
        refine lv_aload_n X.1 X.2.1 dX3_react_48 rfl (lv_at hl 0 rfl) ?_
        refine gtC_32_5 X w dX3_react_49 ?_
        refine lv_iload_n X.1 X.2.1 dX3_react_52 rfl (lv_at hl 1 rfl) ?_
        refine lv_iconst (v := (1 : Int32)) X.1 X.2.1 dX3_react_53 (by decide) ?_
        obtain ⟨b7, hf⟩ := px_ck_e hf
        refine isC_36 X w b7 rfl dX3_react_54 (fun H locs w => ?_)
        obtain ⟨M8, eM8, hf⟩ := px_bn_e hf
        rw [← eM8] at w
        refine lv_aload_n X.1 X.2.1 dX3_react_55 rfl (lv_at hl 0 rfl) ?_
        refine gtC_32_10 X w dX3_react_56 ?_
        refine lv_aload_n X.1 X.2.1 dX3_react_59 rfl (lv_at hl 0 rfl) ?_
        refine gtC_32_14 X w dX3_react_60 ?_
        refine lv_iload_n X.1 X.2.1 dX3_react_63 rfl (lv_at hl 1 rfl) ?_
        obtain ⟨b9, hf⟩ := px_ck_e hf
        refine isC_39 X w b9 dX3_react_64 (fun H locs w => ?_)
        obtain ⟨M10, eM10, hf⟩ := px_bn_e hf
        rw [← eM10] at w
        refine lv_aload_n X.1 X.2.1 dX3_react_65 rfl (lv_at hl 0 rfl) ?_
        refine gtC_32_11 X w dX3_react_66 ?_
        refine lv_aload_n X.1 X.2.1 dX3_react_69 rfl (lv_at hl 0 rfl) ?_
        refine gtC_32_14 X w dX3_react_70 ?_
        refine lv_iload X.1 X.2.1 dX3_react_73 (lv_at hl 4 rfl) ?_
        obtain ⟨b11, hf⟩ := px_ck_e hf
        refine isC_40 X w b11 dX3_react_75 (fun H locs w => ?_)
        obtain ⟨M12, eM12, hf⟩ := px_bn_e hf
        rw [← eM12] at w
        refine lv_aload_n X.1 X.2.1 dX3_react_76 rfl (lv_at hl 0 rfl) ?_
        refine gtC_32_12 X w dX3_react_77 ?_
        refine lv_aload_n X.1 X.2.1 dX3_react_80 rfl (lv_at hl 0 rfl) ?_
        refine gtC_32_14 X w dX3_react_81 ?_
        refine lv_iload_n X.1 X.2.1 dX3_react_84 rfl (lv_at hl 2 rfl) ?_
        obtain ⟨b13, hf⟩ := px_ck_e hf
        refine isC_41 X w b13 dX3_react_85 (fun H locs w => ?_)
        obtain ⟨M14, eM14, hf⟩ := px_bn_e hf
        rw [← eM14] at w
        refine lv_aload_n X.1 X.2.1 dX3_react_86 rfl (lv_at hl 0 rfl) ?_
        refine gtC_32_13 X w dX3_react_87 ?_
        refine lv_aload_n X.1 X.2.1 dX3_react_90 rfl (lv_at hl 0 rfl) ?_
        refine gtC_32_14 X w dX3_react_91 ?_
        refine lv_iload_n X.1 X.2.1 dX3_react_94 rfl (lv_at hl 3 rfl) ?_
        obtain ⟨b15, hf⟩ := px_ck_e hf
        refine isC_42 X w b15 dX3_react_95 (fun H locs w => ?_)
        obtain ⟨M16, eM16, hf⟩ := px_bn_e hf
        rw [← eM16] at w
        refine lv_aload_n X.1 X.2.1 dX3_react_96 rfl (lv_at hl 0 rfl) ?_
        refine gtC_32_2 X w dX3_react_97 ?_
        refine lv_iload_n X.1 X.2.1 dX3_react_100 rfl (lv_at hl 1 rfl) ?_
        obtain ⟨b17, hf⟩ := px_ck_e hf
        refine ilC_33 X w b17 dX3_react_101 ?_
        refine lv_if_eq (tgt := 118) X.1 X.2.1 dX3_react_102 (by decide) (fun c18 => ?_) (fun c18 => ?_)
        · have hf := px_ip c18 hf
          refine lv_aload_n X.1 X.2.1 dX3_react_118 rfl (lv_at hl 0 rfl) ?_
          refine lv_dup X.1 X.2.1 dX3_react_119 rfl ?_
          refine gtC_32_14 X w dX3_react_120 ?_
          refine lv_iconst (v := (1 : Int32)) X.1 X.2.1 dX3_react_123 (by decide) ?_
          refine lv_iadd X.1 X.2.1 dX3_react_124 ?_
          refine ptC_32_14 X w dX3_react_125 (fun H locs w => ?_)
          obtain ⟨M19, eM19, hf⟩ := px_bn_e hf
          rw [← eM19] at w
          cases hf
          exact px_retV X hr hlk w dX3_react_128
        · have hf := px_in c18 hf
          refine lv_aload_n X.1 X.2.1 dX3_react_105 rfl (lv_at hl 0 rfl) ?_
          refine gtC_32_0 X w dX3_react_106 ?_
          refine lv_iconst (v := (2 : Int32)) X.1 X.2.1 dX3_react_109 (by decide) ?_
          refine lv_aload_n X.1 X.2.1 dX3_react_110 rfl (lv_at hl 0 rfl) ?_
          refine gtC_32_14 X w dX3_react_111 ?_
          refine lv_iconst (v := (0 : Int32)) X.1 X.2.1 dX3_react_114 (by decide) ?_
          obtain ⟨M21, e20, hf⟩ := px_bq_e hf
          refine px_cV (As := [.int (2 : Int32), .int (M16 32 14), .int (0 : Int32)]) (rest := []) X hml hl w (cC_Line_put_20 l D cs ad e20) lk_3_69 (by decide) (rcC_20 X.2.2.2.2 w) rfl (Nat.le_of_ble_eq_true rfl) dX3_react_115 (fun H locs w => ?_)
          refine lv_aload_n X.1 X.2.1 dX3_react_118 rfl (lv_at hl 0 rfl) ?_
          refine lv_dup X.1 X.2.1 dX3_react_119 rfl ?_
          refine gtC_32_14 X w dX3_react_120 ?_
          refine lv_iconst (v := (1 : Int32)) X.1 X.2.1 dX3_react_123 (by decide) ?_
          refine lv_iadd X.1 X.2.1 dX3_react_124 ?_
          refine ptC_32_14 X w dX3_react_125 (fun H locs w => ?_)
          obtain ⟨M22, eM22, hf⟩ := px_bn_e hf
          rw [← eM22] at w
          cases hf
          exact px_retV X hr hlk w dX3_react_128
      · have hf := px_in c6 hf
        refine lv_aload_n X.1 X.2.1 dX3_react_27 rfl (lv_at hl 0 rfl) ?_
        refine gtC_32_5 X w dX3_react_28 ?_
        refine lv_iload_n X.1 X.2.1 dX3_react_31 rfl (lv_at hl 1 rfl) ?_
        obtain ⟨b23, hf⟩ := px_ck_e hf
        refine ilC_36 X w b23 dX3_react_32 ?_
        refine lv_if_ne (tgt := 48) X.1 X.2.1 dX3_react_33 (by decide) (fun c24 => ?_) (fun c24 => ?_)
        · have hf := px_in c24 hf
          refine lv_aload_n X.1 X.2.1 dX3_react_48 rfl (lv_at hl 0 rfl) ?_
          refine gtC_32_5 X w dX3_react_49 ?_
          refine lv_iload_n X.1 X.2.1 dX3_react_52 rfl (lv_at hl 1 rfl) ?_
          refine lv_iconst (v := (1 : Int32)) X.1 X.2.1 dX3_react_53 (by decide) ?_
          obtain ⟨b25, hf⟩ := px_ck_e hf
          refine isC_36 X w b25 rfl dX3_react_54 (fun H locs w => ?_)
          obtain ⟨M26, eM26, hf⟩ := px_bn_e hf
          rw [← eM26] at w
          refine lv_aload_n X.1 X.2.1 dX3_react_55 rfl (lv_at hl 0 rfl) ?_
          refine gtC_32_10 X w dX3_react_56 ?_
          refine lv_aload_n X.1 X.2.1 dX3_react_59 rfl (lv_at hl 0 rfl) ?_
          refine gtC_32_14 X w dX3_react_60 ?_
          refine lv_iload_n X.1 X.2.1 dX3_react_63 rfl (lv_at hl 1 rfl) ?_
          obtain ⟨b27, hf⟩ := px_ck_e hf
          refine isC_39 X w b27 dX3_react_64 (fun H locs w => ?_)
          obtain ⟨M28, eM28, hf⟩ := px_bn_e hf
          rw [← eM28] at w
          refine lv_aload_n X.1 X.2.1 dX3_react_65 rfl (lv_at hl 0 rfl) ?_
          refine gtC_32_11 X w dX3_react_66 ?_
          refine lv_aload_n X.1 X.2.1 dX3_react_69 rfl (lv_at hl 0 rfl) ?_
          refine gtC_32_14 X w dX3_react_70 ?_
          refine lv_iload X.1 X.2.1 dX3_react_73 (lv_at hl 4 rfl) ?_
          obtain ⟨b29, hf⟩ := px_ck_e hf
          refine isC_40 X w b29 dX3_react_75 (fun H locs w => ?_)
          obtain ⟨M30, eM30, hf⟩ := px_bn_e hf
          rw [← eM30] at w
          refine lv_aload_n X.1 X.2.1 dX3_react_76 rfl (lv_at hl 0 rfl) ?_
          refine gtC_32_12 X w dX3_react_77 ?_
          refine lv_aload_n X.1 X.2.1 dX3_react_80 rfl (lv_at hl 0 rfl) ?_
          refine gtC_32_14 X w dX3_react_81 ?_
          refine lv_iload_n X.1 X.2.1 dX3_react_84 rfl (lv_at hl 2 rfl) ?_
          obtain ⟨b31, hf⟩ := px_ck_e hf
          refine isC_41 X w b31 dX3_react_85 (fun H locs w => ?_)
          obtain ⟨M32, eM32, hf⟩ := px_bn_e hf
          rw [← eM32] at w
          refine lv_aload_n X.1 X.2.1 dX3_react_86 rfl (lv_at hl 0 rfl) ?_
          refine gtC_32_13 X w dX3_react_87 ?_
          refine lv_aload_n X.1 X.2.1 dX3_react_90 rfl (lv_at hl 0 rfl) ?_
          refine gtC_32_14 X w dX3_react_91 ?_
          refine lv_iload_n X.1 X.2.1 dX3_react_94 rfl (lv_at hl 3 rfl) ?_
          obtain ⟨b33, hf⟩ := px_ck_e hf
          refine isC_42 X w b33 dX3_react_95 (fun H locs w => ?_)
          obtain ⟨M34, eM34, hf⟩ := px_bn_e hf
          rw [← eM34] at w
          refine lv_aload_n X.1 X.2.1 dX3_react_96 rfl (lv_at hl 0 rfl) ?_
          refine gtC_32_2 X w dX3_react_97 ?_
          refine lv_iload_n X.1 X.2.1 dX3_react_100 rfl (lv_at hl 1 rfl) ?_
          obtain ⟨b35, hf⟩ := px_ck_e hf
          refine ilC_33 X w b35 dX3_react_101 ?_
          refine lv_if_eq (tgt := 118) X.1 X.2.1 dX3_react_102 (by decide) (fun c36 => ?_) (fun c36 => ?_)
          · have hf := px_ip c36 hf
            refine lv_aload_n X.1 X.2.1 dX3_react_118 rfl (lv_at hl 0 rfl) ?_
            refine lv_dup X.1 X.2.1 dX3_react_119 rfl ?_
            refine gtC_32_14 X w dX3_react_120 ?_
            refine lv_iconst (v := (1 : Int32)) X.1 X.2.1 dX3_react_123 (by decide) ?_
            refine lv_iadd X.1 X.2.1 dX3_react_124 ?_
            refine ptC_32_14 X w dX3_react_125 (fun H locs w => ?_)
            obtain ⟨M37, eM37, hf⟩ := px_bn_e hf
            rw [← eM37] at w
            cases hf
            exact px_retV X hr hlk w dX3_react_128
          · have hf := px_in c36 hf
            refine lv_aload_n X.1 X.2.1 dX3_react_105 rfl (lv_at hl 0 rfl) ?_
            refine gtC_32_0 X w dX3_react_106 ?_
            refine lv_iconst (v := (2 : Int32)) X.1 X.2.1 dX3_react_109 (by decide) ?_
            refine lv_aload_n X.1 X.2.1 dX3_react_110 rfl (lv_at hl 0 rfl) ?_
            refine gtC_32_14 X w dX3_react_111 ?_
            refine lv_iconst (v := (0 : Int32)) X.1 X.2.1 dX3_react_114 (by decide) ?_
            obtain ⟨M39, e38, hf⟩ := px_bq_e hf
            refine px_cV (As := [.int (2 : Int32), .int (M34 32 14), .int (0 : Int32)]) (rest := []) X hml hl w (cC_Line_put_20 l D cs ad e38) lk_3_69 (by decide) (rcC_20 X.2.2.2.2 w) rfl (Nat.le_of_ble_eq_true rfl) dX3_react_115 (fun H locs w => ?_)
            refine lv_aload_n X.1 X.2.1 dX3_react_118 rfl (lv_at hl 0 rfl) ?_
            refine lv_dup X.1 X.2.1 dX3_react_119 rfl ?_
            refine gtC_32_14 X w dX3_react_120 ?_
            refine lv_iconst (v := (1 : Int32)) X.1 X.2.1 dX3_react_123 (by decide) ?_
            refine lv_iadd X.1 X.2.1 dX3_react_124 ?_
            refine ptC_32_14 X w dX3_react_125 (fun H locs w => ?_)
            obtain ⟨M40, eM40, hf⟩ := px_bn_e hf
            rw [← eM40] at w
            cases hf
            exact px_retV X hr hlk w dX3_react_128
        · have hf := px_ip c24 hf
          refine lv_aload_n X.1 X.2.1 dX3_react_36 rfl (lv_at hl 0 rfl) ?_
          refine gtC_32_1 X w dX3_react_37 ?_
          refine lv_sipush (v := (30000 : Int32)) X.1 X.2.1 dX3_react_40 (by decide) ?_
          refine lv_iload_n X.1 X.2.1 dX3_react_43 rfl (lv_at hl 1 rfl) ?_
          refine lv_iadd X.1 X.2.1 dX3_react_44 ?_
          obtain ⟨M42, e41, hf⟩ := px_bq_e hf
          refine px_cV (As := [.int ((30000 : Int32) + p1)]) (rest := []) X hml hl w (cC_Journal_keep_30 l D cs ad e41) lk_3_74 (by decide) (rcC_30 X.2.2.2.2 w) rfl (Nat.le_of_ble_eq_true rfl) dX3_react_45 (fun H locs w => ?_)
          refine lv_aload_n X.1 X.2.1 dX3_react_48 rfl (lv_at hl 0 rfl) ?_
          refine gtC_32_5 X w dX3_react_49 ?_
          refine lv_iload_n X.1 X.2.1 dX3_react_52 rfl (lv_at hl 1 rfl) ?_
          refine lv_iconst (v := (1 : Int32)) X.1 X.2.1 dX3_react_53 (by decide) ?_
          obtain ⟨b43, hf⟩ := px_ck_e hf
          refine isC_36 X w b43 rfl dX3_react_54 (fun H locs w => ?_)
          obtain ⟨M44, eM44, hf⟩ := px_bn_e hf
          rw [← eM44] at w
          refine lv_aload_n X.1 X.2.1 dX3_react_55 rfl (lv_at hl 0 rfl) ?_
          refine gtC_32_10 X w dX3_react_56 ?_
          refine lv_aload_n X.1 X.2.1 dX3_react_59 rfl (lv_at hl 0 rfl) ?_
          refine gtC_32_14 X w dX3_react_60 ?_
          refine lv_iload_n X.1 X.2.1 dX3_react_63 rfl (lv_at hl 1 rfl) ?_
          obtain ⟨b45, hf⟩ := px_ck_e hf
          refine isC_39 X w b45 dX3_react_64 (fun H locs w => ?_)
          obtain ⟨M46, eM46, hf⟩ := px_bn_e hf
          rw [← eM46] at w
          refine lv_aload_n X.1 X.2.1 dX3_react_65 rfl (lv_at hl 0 rfl) ?_
          refine gtC_32_11 X w dX3_react_66 ?_
          refine lv_aload_n X.1 X.2.1 dX3_react_69 rfl (lv_at hl 0 rfl) ?_
          refine gtC_32_14 X w dX3_react_70 ?_
          refine lv_iload X.1 X.2.1 dX3_react_73 (lv_at hl 4 rfl) ?_
          obtain ⟨b47, hf⟩ := px_ck_e hf
          refine isC_40 X w b47 dX3_react_75 (fun H locs w => ?_)
          obtain ⟨M48, eM48, hf⟩ := px_bn_e hf
          rw [← eM48] at w
          refine lv_aload_n X.1 X.2.1 dX3_react_76 rfl (lv_at hl 0 rfl) ?_
          refine gtC_32_12 X w dX3_react_77 ?_
          refine lv_aload_n X.1 X.2.1 dX3_react_80 rfl (lv_at hl 0 rfl) ?_
          refine gtC_32_14 X w dX3_react_81 ?_
          refine lv_iload_n X.1 X.2.1 dX3_react_84 rfl (lv_at hl 2 rfl) ?_
          obtain ⟨b49, hf⟩ := px_ck_e hf
          refine isC_41 X w b49 dX3_react_85 (fun H locs w => ?_)
          obtain ⟨M50, eM50, hf⟩ := px_bn_e hf
          rw [← eM50] at w
          refine lv_aload_n X.1 X.2.1 dX3_react_86 rfl (lv_at hl 0 rfl) ?_
          refine gtC_32_13 X w dX3_react_87 ?_
          refine lv_aload_n X.1 X.2.1 dX3_react_90 rfl (lv_at hl 0 rfl) ?_
          refine gtC_32_14 X w dX3_react_91 ?_
          refine lv_iload_n X.1 X.2.1 dX3_react_94 rfl (lv_at hl 3 rfl) ?_
          obtain ⟨b51, hf⟩ := px_ck_e hf
          refine isC_42 X w b51 dX3_react_95 (fun H locs w => ?_)
          obtain ⟨M52, eM52, hf⟩ := px_bn_e hf
          rw [← eM52] at w
          refine lv_aload_n X.1 X.2.1 dX3_react_96 rfl (lv_at hl 0 rfl) ?_
          refine gtC_32_2 X w dX3_react_97 ?_
          refine lv_iload_n X.1 X.2.1 dX3_react_100 rfl (lv_at hl 1 rfl) ?_
          obtain ⟨b53, hf⟩ := px_ck_e hf
          refine ilC_33 X w b53 dX3_react_101 ?_
          refine lv_if_eq (tgt := 118) X.1 X.2.1 dX3_react_102 (by decide) (fun c54 => ?_) (fun c54 => ?_)
          · have hf := px_ip c54 hf
            refine lv_aload_n X.1 X.2.1 dX3_react_118 rfl (lv_at hl 0 rfl) ?_
            refine lv_dup X.1 X.2.1 dX3_react_119 rfl ?_
            refine gtC_32_14 X w dX3_react_120 ?_
            refine lv_iconst (v := (1 : Int32)) X.1 X.2.1 dX3_react_123 (by decide) ?_
            refine lv_iadd X.1 X.2.1 dX3_react_124 ?_
            refine ptC_32_14 X w dX3_react_125 (fun H locs w => ?_)
            obtain ⟨M55, eM55, hf⟩ := px_bn_e hf
            rw [← eM55] at w
            cases hf
            exact px_retV X hr hlk w dX3_react_128
          · have hf := px_in c54 hf
            refine lv_aload_n X.1 X.2.1 dX3_react_105 rfl (lv_at hl 0 rfl) ?_
            refine gtC_32_0 X w dX3_react_106 ?_
            refine lv_iconst (v := (2 : Int32)) X.1 X.2.1 dX3_react_109 (by decide) ?_
            refine lv_aload_n X.1 X.2.1 dX3_react_110 rfl (lv_at hl 0 rfl) ?_
            refine gtC_32_14 X w dX3_react_111 ?_
            refine lv_iconst (v := (0 : Int32)) X.1 X.2.1 dX3_react_114 (by decide) ?_
            obtain ⟨M57, e56, hf⟩ := px_bq_e hf
            refine px_cV (As := [.int (2 : Int32), .int (M52 32 14), .int (0 : Int32)]) (rest := []) X hml hl w (cC_Line_put_20 l D cs ad e56) lk_3_69 (by decide) (rcC_20 X.2.2.2.2 w) rfl (Nat.le_of_ble_eq_true rfl) dX3_react_115 (fun H locs w => ?_)
            refine lv_aload_n X.1 X.2.1 dX3_react_118 rfl (lv_at hl 0 rfl) ?_
            refine lv_dup X.1 X.2.1 dX3_react_119 rfl ?_
            refine gtC_32_14 X w dX3_react_120 ?_
            refine lv_iconst (v := (1 : Int32)) X.1 X.2.1 dX3_react_123 (by decide) ?_
            refine lv_iadd X.1 X.2.1 dX3_react_124 ?_
            refine ptC_32_14 X w dX3_react_125 (fun H locs w => ?_)
            obtain ⟨M58, eM58, hf⟩ := px_bn_e hf
            rw [← eM58] at w
            cases hf
            exact px_retV X hr hlk w dX3_react_128
    · have hf := px_in c4 hf
      cases hf
      exact px_retV X hr hlk w dX3_react_17
def gC_Promises_reportUnhandled_L2 (rc : px_M → Int32 → Option px_M) (M : px_M) (y1 : Int32) : Option px_M := (if (M 32 9) ≤ y1 then px_bn (px_up M 32 9 (0 : Int32)) (fun M2 => some M2) else px_ck y1 40 (px_bn ((M 38 y1.toNatClampNeg)) (fun x4 => px_ck x4 40 ((if (M 36 x4.toNatClampNeg) = 0 then px_ck x4 40 (px_bn (px_up M 37 x4.toNatClampNeg (1 : Int32)) (fun M8 => px_bq (fC_Journal_keep_30 M8 ((20000 : Int32) + x4)) (fun M10 => rc M10 (y1 + (1 : Int32))))) else rc M (y1 + (1 : Int32)))))))
set_option maxHeartbeats 4000000 in
set_option maxRecDepth 100000 in
theorem lC_Promises_reportUnhandled_L2 {l : Launch} {D : va_G} {cs : Nat → ClassId} {ad : Nat → Nat} {p : Program} {e : Env} {s : State} {m : MethodId} {args : Array Value} {below : List Frame} {meth : Method} {c : Code} {A : Nat → Prop} (X : px_X D (tyC cs) p s m args c cX3_reportUnhandled yX3_reportUnhandled.cls) (hr : meth.sig.returnType = none) (hlk : meth.locks = false) (hml : c.maxLocals = 3) : ∀ (j : Nat) (M : px_M) (y1 : Int32) (z : px_M), px_fx1 gC_Promises_reportUnhandled_L2 j M y1 = some z → ∀ (H : Heap) (locs : List Loc) (ls : Array Slot), px_H D (wC cs ad) A s.heap M H locs → lv_has ls 3 [(0, .ref (ad 32)), (1, .int y1)] → W p l e (px_rm 1) s m args below meth c H locs 0 0 (px_QV D (tyC cs) (wC cs ad) below args s A z) (F0 m 2 ls []) := by
  refine px_fx1_i (P := fun M y1 (z : px_M) => ∀ (H : Heap) (locs : List Loc) (ls : Array Slot), px_H D (wC cs ad) A s.heap M H locs → lv_has ls 3 [(0, .ref (ad 32)), (1, .int y1)] → W p l e (px_rm 1) s m args below meth c H locs 0 0 (px_QV D (tyC cs) (wC cs ad) below args s A z) (F0 m 2 ls [])) ?_
  intro rc ih M y1 z hf H locs ls w hl
  unfold gC_Promises_reportUnhandled_L2 at hf
  refine lv_iload_n X.1 X.2.1 dX3_reportUnhandled_2 rfl (lv_at hl 1 rfl) ?_
  refine lv_aload_n X.1 X.2.1 dX3_reportUnhandled_3 rfl (lv_at hl 0 rfl) ?_
  refine gtC_32_9 X w dX3_reportUnhandled_4 ?_
  refine lv_icmp_ge (tgt := 51) X.1 X.2.1 dX3_reportUnhandled_7 (by decide) (fun c1 => ?_) (fun c1 => ?_)
  · have hf := px_ip c1 hf
    refine lv_aload_n X.1 X.2.1 dX3_reportUnhandled_51 rfl (lv_at hl 0 rfl) ?_
    refine lv_iconst (v := (0 : Int32)) X.1 X.2.1 dX3_reportUnhandled_52 (by decide) ?_
    refine ptC_32_9 X w dX3_reportUnhandled_53 (fun H locs w => ?_)
    obtain ⟨M2, eM2, hf⟩ := px_bn_e hf
    rw [← eM2] at w
    cases hf
    exact px_retV X hr hlk w dX3_reportUnhandled_56
  · have hf := px_in c1 hf
    refine lv_aload_n X.1 X.2.1 dX3_reportUnhandled_10 rfl (lv_at hl 0 rfl) ?_
    refine gtC_32_8 X w dX3_reportUnhandled_11 ?_
    refine lv_iload_n X.1 X.2.1 dX3_reportUnhandled_14 rfl (lv_at hl 1 rfl) ?_
    obtain ⟨b3, hf⟩ := px_ck_e hf
    refine ilC_38 X w b3 dX3_reportUnhandled_15 ?_
    obtain ⟨x4, ex4, hf⟩ := px_bn_e hf
    rw [← ex4]
    refine lv_istore_n (lv' := [(2, .int x4), (0, .ref (ad 32)), (1, .int y1)]) X.1 X.2.1 dX3_reportUnhandled_16 rfl hl (by decide) rfl (fun ls hl => ?_)
    refine lv_aload_n X.1 X.2.1 dX3_reportUnhandled_17 rfl (lv_at hl 1 rfl) ?_
    refine gtC_32_5 X w dX3_reportUnhandled_18 ?_
    refine lv_iload_n X.1 X.2.1 dX3_reportUnhandled_21 rfl (lv_at hl 0 rfl) ?_
    obtain ⟨b5, hf⟩ := px_ck_e hf
    refine ilC_36 X w b5 dX3_reportUnhandled_22 ?_
    refine lv_if_ne (tgt := 45) X.1 X.2.1 dX3_reportUnhandled_23 (by decide) (fun c6 => ?_) (fun c6 => ?_)
    · have hf := px_in c6 hf
      refine lv_iinc (v := (y1 + (1 : Int32))) (lv' := [(1, .int (y1 + (1 : Int32))), (2, .int x4), (0, .ref (ad 32))]) X.1 X.2.1 dX3_reportUnhandled_45 hl (k := 2) rfl rfl (by decide) rfl (fun ls hl => ?_)
      refine lv_goto (tgt := 2) X.1 X.2.1 dX3_reportUnhandled_48 (by decide) ?_
      exact ih M (y1 + (1 : Int32)) _ hf H locs ls w (lv_sub hl [2, 0] rfl)
    · have hf := px_ip c6 hf
      refine lv_aload_n X.1 X.2.1 dX3_reportUnhandled_26 rfl (lv_at hl 1 rfl) ?_
      refine gtC_32_6 X w dX3_reportUnhandled_27 ?_
      refine lv_iload_n X.1 X.2.1 dX3_reportUnhandled_30 rfl (lv_at hl 0 rfl) ?_
      refine lv_iconst (v := (1 : Int32)) X.1 X.2.1 dX3_reportUnhandled_31 (by decide) ?_
      obtain ⟨b7, hf⟩ := px_ck_e hf
      refine isC_37 X w b7 rfl dX3_reportUnhandled_32 (fun H locs w => ?_)
      obtain ⟨M8, eM8, hf⟩ := px_bn_e hf
      rw [← eM8] at w
      refine lv_aload_n X.1 X.2.1 dX3_reportUnhandled_33 rfl (lv_at hl 1 rfl) ?_
      refine gtC_32_1 X w dX3_reportUnhandled_34 ?_
      refine lv_sipush (v := (20000 : Int32)) X.1 X.2.1 dX3_reportUnhandled_37 (by decide) ?_
      refine lv_iload_n X.1 X.2.1 dX3_reportUnhandled_40 rfl (lv_at hl 0 rfl) ?_
      refine lv_iadd X.1 X.2.1 dX3_reportUnhandled_41 ?_
      obtain ⟨M10, e9, hf⟩ := px_bq_e hf
      refine px_cV (As := [.int ((20000 : Int32) + x4)]) (rest := []) X hml hl w (cC_Journal_keep_30 l D cs ad e9) lk_3_74 (by decide) (rcC_30 X.2.2.2.2 w) rfl (Nat.le_of_ble_eq_true rfl) dX3_reportUnhandled_42 (fun H locs w => ?_)
      refine lv_iinc (v := (y1 + (1 : Int32))) (lv' := [(1, .int (y1 + (1 : Int32))), (2, .int x4), (0, .ref (ad 32))]) X.1 X.2.1 dX3_reportUnhandled_45 hl (k := 2) rfl rfl (by decide) rfl (fun ls hl => ?_)
      refine lv_goto (tgt := 2) X.1 X.2.1 dX3_reportUnhandled_48 (by decide) ?_
      exact ih M10 (y1 + (1 : Int32)) _ hf H locs ls w (lv_sub hl [2, 0] rfl)
def fC_Promises_reportUnhandled (M : px_M) : Option px_M := px_fx1 gC_Promises_reportUnhandled_L2 41 M (0 : Int32)
set_option maxHeartbeats 4000000 in
set_option maxRecDepth 100000 in
theorem cC_Promises_reportUnhandled (l : Launch) (D : va_G) (cs : Nat → ClassId) (ad : Nat → Nat) {M : px_M} {M' : px_M} (hf : fC_Promises_reportUnhandled M = some M') : px_mV l D (tyC cs) (wC cs ad) yX3_reportUnhandled cX3_reportUnhandled 3 1 [.ref (ad 32)] M M' := by
  refine px_ofV (by decide +kernel) (Nat.le_of_ble_eq_true rfl) ?_
  intro p e s m below meth c A ls X hr hlk hml w hl
  have hl : lv_has ls 3 [(0, .ref (ad 32))] := hl
  unfold fC_Promises_reportUnhandled at hf
  refine lv_iconst (v := (0 : Int32)) X.1 X.2.1 dX3_reportUnhandled_0 (by decide) ?_
  refine lv_istore_n (lv' := [(1, .int (0 : Int32)), (0, .ref (ad 32))]) X.1 X.2.1 dX3_reportUnhandled_1 rfl hl (by decide) rfl (fun ls hl => ?_)
  exact lC_Promises_reportUnhandled_L2 X hr hlk hml 41 M (0 : Int32) _ hf _ _ ls w (lv_sub hl [1, 0] rfl)
end
section
def fC_isWithin (M : px_M) (p0 p1 p2 : Int32) : Option Int32 := (if p0 < p1 then some (0 : Int32) else (if p2 < p0 then some (0 : Int32) else some (1 : Int32)))
set_option maxHeartbeats 4000000 in
set_option maxRecDepth 100000 in
theorem cC_isWithin (l : Launch) (D : va_G) (cs : Nat → ClassId) (ad : Nat → Nat) {M : px_M} {p0 p1 p2 : Int32} {r : Int32} (hf : fC_isWithin M p0 p1 p2 = some r) : px_mI l D (tyC cs) (wC cs ad) yX5_isWithin cX5_isWithin 3 (some .boolean) 0 [.int p0, .int p1, .int p2] M r M := by
  refine px_ofI (by decide +kernel) (Nat.le_of_ble_eq_true rfl) ?_
  intro p e s m below meth c A ls X hr hlk hml w hl
  have hl : lv_has ls 3 [(0, .int p0), (1, .int p1), (2, .int p2)] := hl
  unfold fC_isWithin at hf
  refine lv_iload_n X.1 X.2.1 dX5_isWithin_0 rfl (lv_at hl 0 rfl) ?_
  refine lv_iload_n X.1 X.2.1 dX5_isWithin_1 rfl (lv_at hl 1 rfl) ?_
  refine lv_icmp_lt (tgt := 14) X.1 X.2.1 dX5_isWithin_2 (by decide) (fun c1 => ?_) (fun c1 => ?_)
  · have hf := px_ip c1 hf
    refine lv_iconst (v := (0 : Int32)) X.1 X.2.1 dX5_isWithin_14 (by decide) ?_
    cases hf
    exact px_retZ X hr hlk narrow_b0 w dX5_isWithin_15
  · have hf := px_in c1 hf
    refine lv_iload_n X.1 X.2.1 dX5_isWithin_5 rfl (lv_at hl 0 rfl) ?_
    refine lv_iload_n X.1 X.2.1 dX5_isWithin_6 rfl (lv_at hl 2 rfl) ?_
    refine lv_icmp_gt (tgt := 14) X.1 X.2.1 dX5_isWithin_7 (by decide) (fun c2 => ?_) (fun c2 => ?_)
    · have hf := px_ip c2 hf
      refine lv_iconst (v := (0 : Int32)) X.1 X.2.1 dX5_isWithin_14 (by decide) ?_
      cases hf
      exact px_retZ X hr hlk narrow_b0 w dX5_isWithin_15
    · have hf := px_in c2 hf
      refine lv_iconst (v := (1 : Int32)) X.1 X.2.1 dX5_isWithin_10 (by decide) ?_
      refine lv_goto (tgt := 15) X.1 X.2.1 dX5_isWithin_11 (by decide) ?_
      cases hf
      exact px_retZ X hr hlk narrow_b1 w dX5_isWithin_15
theorem lk_5_155 : px_Ls RX5 155 yX5_isWithin cX5_isWithin 3 (some .boolean) 3 := ⟨px_tb (by decide +kernel) (by decide +kernel), px_tb (by decide +kernel) (by decide +kernel), px_tb (by decide +kernel) (by decide +kernel), px_tb (by decide +kernel) (by decide +kernel), by decide +kernel, by decide⟩
def fC_isFunction (M : px_M) (p0 : Int32) : Option Int32 := px_bq (fC_isWithin M p0 (0 : Int32) (9 : Int32)) (fun r2 => px_cb r2 (some r2))
set_option maxHeartbeats 4000000 in
set_option maxRecDepth 100000 in
theorem cC_isFunction (l : Launch) (D : va_G) (cs : Nat → ClassId) (ad : Nat → Nat) {M : px_M} {p0 : Int32} {r : Int32} (hf : fC_isFunction M p0 = some r) : px_mI l D (tyC cs) (wC cs ad) yX5_isFunction cX5_isFunction 1 (some .boolean) 1 [.int p0] M r M := by
  refine px_ofI (by decide +kernel) (Nat.le_of_ble_eq_true rfl) ?_
  intro p e s m below meth c A ls X hr hlk hml w hl
  have hl : lv_has ls 1 [(0, .int p0)] := hl
  unfold fC_isFunction at hf
  refine lv_iload_n X.1 X.2.1 dX5_isFunction_0 rfl (lv_at hl 0 rfl) ?_
  refine lv_iconst (v := (0 : Int32)) X.1 X.2.1 dX5_isFunction_1 (by decide) ?_
  refine lv_bipush (v := (9 : Int32)) X.1 X.2.1 dX5_isFunction_2 (by decide) ?_
  obtain ⟨r2, e1, hf⟩ := px_bq_e hf
  refine px_cS (As := [.int p0, .int (0 : Int32), .int (9 : Int32)]) (rest := []) X hml hl w (cC_isWithin l D cs ad e1) lk_5_155 (by decide) rfl (Nat.le_of_ble_eq_true rfl) dX5_isFunction_4 (fun H locs w => ?_)
  obtain ⟨b3, hf⟩ := px_cb_e hf
  cases hf
  exact px_retZ X hr hlk b3 w dX5_isFunction_7
def fC_isRegister (M : px_M) (p0 : Int32) : Option Int32 := px_bq (fC_isWithin M p0 (0 : Int32) (7 : Int32)) (fun r2 => px_cb r2 (some r2))
set_option maxHeartbeats 4000000 in
set_option maxRecDepth 100000 in
theorem cC_isRegister (l : Launch) (D : va_G) (cs : Nat → ClassId) (ad : Nat → Nat) {M : px_M} {p0 : Int32} {r : Int32} (hf : fC_isRegister M p0 = some r) : px_mI l D (tyC cs) (wC cs ad) yX5_isRegister cX5_isRegister 1 (some .boolean) 1 [.int p0] M r M := by
  refine px_ofI (by decide +kernel) (Nat.le_of_ble_eq_true rfl) ?_
  intro p e s m below meth c A ls X hr hlk hml w hl
  have hl : lv_has ls 1 [(0, .int p0)] := hl
  unfold fC_isRegister at hf
  refine lv_iload_n X.1 X.2.1 dX5_isRegister_0 rfl (lv_at hl 0 rfl) ?_
  refine lv_iconst (v := (0 : Int32)) X.1 X.2.1 dX5_isRegister_1 (by decide) ?_
  refine lv_bipush (v := (7 : Int32)) X.1 X.2.1 dX5_isRegister_2 (by decide) ?_
  obtain ⟨r2, e1, hf⟩ := px_bq_e hf
  refine px_cS (As := [.int p0, .int (0 : Int32), .int (7 : Int32)]) (rest := []) X hml hl w (cC_isWithin l D cs ad e1) lk_5_155 (by decide) rfl (Nat.le_of_ble_eq_true rfl) dX5_isRegister_4 (fun H locs w => ?_)
  obtain ⟨b3, hf⟩ := px_cb_e hf
  cases hf
  exact px_retZ X hr hlk b3 w dX5_isRegister_7
def fC_isSource (M : px_M) (p0 : Int32) : Option Int32 := px_bq (fC_isWithin M p0 (0 : Int32) (2 : Int32)) (fun r2 => px_cb r2 (some r2))
set_option maxHeartbeats 4000000 in
set_option maxRecDepth 100000 in
theorem cC_isSource (l : Launch) (D : va_G) (cs : Nat → ClassId) (ad : Nat → Nat) {M : px_M} {p0 : Int32} {r : Int32} (hf : fC_isSource M p0 = some r) : px_mI l D (tyC cs) (wC cs ad) yX5_isSource cX5_isSource 1 (some .boolean) 1 [.int p0] M r M := by
  refine px_ofI (by decide +kernel) (Nat.le_of_ble_eq_true rfl) ?_
  intro p e s m below meth c A ls X hr hlk hml w hl
  have hl : lv_has ls 1 [(0, .int p0)] := hl
  unfold fC_isSource at hf
  refine lv_iload_n X.1 X.2.1 dX5_isSource_0 rfl (lv_at hl 0 rfl) ?_
  refine lv_iconst (v := (0 : Int32)) X.1 X.2.1 dX5_isSource_1 (by decide) ?_
  refine lv_iconst (v := (2 : Int32)) X.1 X.2.1 dX5_isSource_2 (by decide) ?_
  obtain ⟨r2, e1, hf⟩ := px_bq_e hf
  refine px_cS (As := [.int p0, .int (0 : Int32), .int (2 : Int32)]) (rest := []) X hml hl w (cC_isWithin l D cs ad e1) lk_5_155 (by decide) rfl (Nat.le_of_ble_eq_true rfl) dX5_isSource_3 (fun H locs w => ?_)
  obtain ⟨b3, hf⟩ := px_cb_e hf
  cases hf
  exact px_retZ X hr hlk b3 w dX5_isSource_6
def fC_isNumber (M : px_M) (p0 : Int32) : Option Int32 := px_bq (fC_isWithin M p0 (-999 : Int32) (999 : Int32)) (fun r2 => px_cb r2 (some r2))
set_option maxHeartbeats 4000000 in
set_option maxRecDepth 100000 in
theorem cC_isNumber (l : Launch) (D : va_G) (cs : Nat → ClassId) (ad : Nat → Nat) {M : px_M} {p0 : Int32} {r : Int32} (hf : fC_isNumber M p0 = some r) : px_mI l D (tyC cs) (wC cs ad) yX5_isNumber cX5_isNumber 1 (some .boolean) 1 [.int p0] M r M := by
  refine px_ofI (by decide +kernel) (Nat.le_of_ble_eq_true rfl) ?_
  intro p e s m below meth c A ls X hr hlk hml w hl
  have hl : lv_has ls 1 [(0, .int p0)] := hl
  unfold fC_isNumber at hf
  refine lv_iload_n X.1 X.2.1 dX5_isNumber_0 rfl (lv_at hl 0 rfl) ?_
  refine lv_sipush (v := (-999 : Int32)) X.1 X.2.1 dX5_isNumber_1 (by decide) ?_
  refine lv_sipush (v := (999 : Int32)) X.1 X.2.1 dX5_isNumber_4 (by decide) ?_
  obtain ⟨r2, e1, hf⟩ := px_bq_e hf
  refine px_cS (As := [.int p0, .int (-999 : Int32), .int (999 : Int32)]) (rest := []) X hml hl w (cC_isWithin l D cs ad e1) lk_5_155 (by decide) rfl (Nat.le_of_ble_eq_true rfl) dX5_isNumber_7 (fun H locs w => ?_)
  obtain ⟨b3, hf⟩ := px_cb_e hf
  cases hf
  exact px_retZ X hr hlk b3 w dX5_isNumber_10
def fC_isChoice (M : px_M) (p0 : Int32) : Option Int32 := px_bq (fC_isWithin M p0 (0 : Int32) (1 : Int32)) (fun r2 => px_cb r2 (some r2))
set_option maxHeartbeats 4000000 in
set_option maxRecDepth 100000 in
theorem cC_isChoice (l : Launch) (D : va_G) (cs : Nat → ClassId) (ad : Nat → Nat) {M : px_M} {p0 : Int32} {r : Int32} (hf : fC_isChoice M p0 = some r) : px_mI l D (tyC cs) (wC cs ad) yX5_isChoice cX5_isChoice 1 (some .boolean) 1 [.int p0] M r M := by
  refine px_ofI (by decide +kernel) (Nat.le_of_ble_eq_true rfl) ?_
  intro p e s m below meth c A ls X hr hlk hml w hl
  have hl : lv_has ls 1 [(0, .int p0)] := hl
  unfold fC_isChoice at hf
  refine lv_iload_n X.1 X.2.1 dX5_isChoice_0 rfl (lv_at hl 0 rfl) ?_
  refine lv_iconst (v := (0 : Int32)) X.1 X.2.1 dX5_isChoice_1 (by decide) ?_
  refine lv_iconst (v := (1 : Int32)) X.1 X.2.1 dX5_isChoice_2 (by decide) ?_
  obtain ⟨r2, e1, hf⟩ := px_bq_e hf
  refine px_cS (As := [.int p0, .int (0 : Int32), .int (1 : Int32)]) (rest := []) X hml hl w (cC_isWithin l D cs ad e1) lk_5_155 (by decide) rfl (Nat.le_of_ble_eq_true rfl) dX5_isChoice_3 (fun H locs w => ?_)
  obtain ⟨b3, hf⟩ := px_cb_e hf
  cases hf
  exact px_retZ X hr hlk b3 w dX5_isChoice_6
theorem lk_5_204 : px_Ls RX5 204 yX5_isNumber cX5_isNumber 1 (some .boolean) 1 := ⟨px_tb (by decide +kernel) (by decide +kernel), px_tb (by decide +kernel) (by decide +kernel), px_tb (by decide +kernel) (by decide +kernel), px_tb (by decide +kernel) (by decide +kernel), by decide +kernel, by decide⟩
theorem lk_5_207 : px_Ls RX5 207 yX5_isChoice cX5_isChoice 1 (some .boolean) 1 := ⟨px_tb (by decide +kernel) (by decide +kernel), px_tb (by decide +kernel) (by decide +kernel), px_tb (by decide +kernel) (by decide +kernel), px_tb (by decide +kernel) (by decide +kernel), by decide +kernel, by decide⟩
theorem lk_5_91 : px_Ls RX5 91 yX5_isFunction cX5_isFunction 1 (some .boolean) 1 := ⟨px_tb (by decide +kernel) (by decide +kernel), px_tb (by decide +kernel) (by decide +kernel), px_tb (by decide +kernel) (by decide +kernel), px_tb (by decide +kernel) (by decide +kernel), by decide +kernel, by decide⟩
theorem lk_5_124 : px_Ls RX5 124 yX5_isSource cX5_isSource 1 (some .boolean) 1 := ⟨px_tb (by decide +kernel) (by decide +kernel), px_tb (by decide +kernel) (by decide +kernel), px_tb (by decide +kernel) (by decide +kernel), px_tb (by decide +kernel) (by decide +kernel), by decide +kernel, by decide⟩
theorem lk_5_164 : px_Ls RX5 164 yX5_isRegister cX5_isRegister 1 (some .boolean) 1 := ⟨px_tb (by decide +kernel) (by decide +kernel), px_tb (by decide +kernel) (by decide +kernel), px_tb (by decide +kernel) (by decide +kernel), px_tb (by decide +kernel) (by decide +kernel), by decide +kernel, by decide⟩
def fC_isKnown (M : px_M) (p0 p1 p2 : Int32) : Option Int32 := (if p0 = (0 : Int32) then px_bq (fC_isNumber M p1) (fun r3 => (if r3 = 0 then some (0 : Int32) else px_bq (fC_isChoice M p2) (fun r6 => (if r6 = 0 then some (0 : Int32) else some (1 : Int32))))) else (if p0 = (1 : Int32) then px_bq (fC_isFunction M p1) (fun r10 => (if r10 = 0 then some (0 : Int32) else px_bq (fC_isSource M p2) (fun r13 => (if r13 = 0 then some (0 : Int32) else some (1 : Int32))))) else (if p0 = (2 : Int32) then px_bq (fC_isFunction M p1) (fun r17 => px_cb r17 (some r17)) else (if p0 = (3 : Int32) then px_bq (fC_isFunction M p1) (fun r21 => (if r21 = 0 then some (0 : Int32) else px_bq (fC_isWithin M p2 (0 : Int32) (200 : Int32)) (fun r24 => (if r24 = 0 then some (0 : Int32) else some (1 : Int32))))) else (if p0 = (4 : Int32) then px_bq (fC_isFunction M p1) (fun r28 => (if r28 = 0 then some (0 : Int32) else px_bq (fC_isWithin M p2 (0 : Int32) (200 : Int32)) (fun r31 => (if r31 = 0 then some (0 : Int32) else some (1 : Int32))))) else (if p0 = (5 : Int32) then px_bq (fC_isNumber M p1) (fun r35 => px_cb r35 (some r35)) else (if p0 = (6 : Int32) then px_bq (fC_isNumber M p1) (fun r39 => (if r39 = 0 then some (0 : Int32) else px_bq (fC_isChoice M p2) (fun r42 => (if r42 = 0 then some (0 : Int32) else some (1 : Int32))))) else (if p0 = (7 : Int32) then px_bq (fC_isFunction M p1) (fun r46 => px_cb r46 (some r46)) else (if p0 = (8 : Int32) then px_bq (fC_isFunction M p1) (fun r50 => (if r50 = 0 then some (0 : Int32) else px_bq (fC_isFunction M p2) (fun r53 => (if r53 = 0 then some (0 : Int32) else some (1 : Int32))))) else (if p0 = (9 : Int32) then (if p2 = (2 : Int32) then px_bq (fC_isRegister M p1) (fun r64 => px_cb r64 (some r64)) else px_bq (fC_isNumber M p1) (fun r58 => (if r58 = 0 then some (0 : Int32) else px_bq (fC_isChoice M p2) (fun r61 => (if r61 = 0 then some (0 : Int32) else some (1 : Int32)))))) else (if p0 = (10 : Int32) then px_bq (fC_isRegister M p1) (fun r68 => px_cb r68 (some r68)) else (if p0 = (11 : Int32) then px_bq (fC_isRegister M p1) (fun r72 => (if r72 = 0 then some (0 : Int32) else px_bq (fC_isChoice M p2) (fun r75 => (if r75 = 0 then some (0 : Int32) else some (1 : Int32))))) else (if p0 = (12 : Int32) then px_bq (fC_isRegister M p1) (fun r79 => (if r79 = 0 then some (0 : Int32) else px_bq (fC_isRegister M p2) (fun r82 => (if r82 = 0 then some (0 : Int32) else some (1 : Int32))))) else (if p0 = (13 : Int32) then px_bq (fC_isRegister M p1) (fun r86 => (if r86 = 0 then some (0 : Int32) else px_bq (fC_isWithin M p2 (0 : Int32) (255 : Int32)) (fun r89 => (if r89 = 0 then some (0 : Int32) else some (1 : Int32))))) else (if p0 = (14 : Int32) then px_bq (fC_isFunction M p1) (fun r93 => px_cb r93 (some r93)) else (if p0 = (15 : Int32) then px_bq (fC_isRegister M p1) (fun r97 => (if r97 = 0 then some (0 : Int32) else px_bq (fC_isRegister M p2) (fun r100 => (if r100 = 0 then some (0 : Int32) else some (1 : Int32))))) else some (0 : Int32)))))))))))))))))
set_option maxHeartbeats 4000000 in
set_option maxRecDepth 100000 in
theorem cC_isKnown (l : Launch) (D : va_G) (cs : Nat → ClassId) (ad : Nat → Nat) {M : px_M} {p0 p1 p2 : Int32} {r : Int32} (hf : fC_isKnown M p0 p1 p2 = some r) : px_mI l D (tyC cs) (wC cs ad) yX5_isKnown cX5_isKnown 3 (some .boolean) 2 [.int p0, .int p1, .int p2] M r M := by
  refine px_ofI (by decide +kernel) (Nat.le_of_ble_eq_true rfl) ?_
  intro p e s m below meth c A ls X hr hlk hml w hl
  have hl : lv_has ls 3 [(0, .int p0), (1, .int p1), (2, .int p2)] := hl
  unfold fC_isKnown at hf
  refine lv_iload_n X.1 X.2.1 dX5_isKnown_0 rfl (lv_at hl 0 rfl) ?_
  by_cases c1 : p0 = (0 : Int32)
  · have hf := px_ip c1 hf
    refine lv_tableIn (tgt := 80) X.1 X.2.1 dX5_isKnown_1 (by rw [c1]; decide) (by rw [c1]; decide) (by rw [c1]; rfl) (by decide) ?_
    refine lv_iload_n X.1 X.2.1 dX5_isKnown_80 rfl (lv_at hl 1 rfl) ?_
    obtain ⟨r3, e2, hf⟩ := px_bq_e hf
    refine px_cS (As := [.int p1]) (rest := []) X hml hl w (cC_isNumber l D cs ad e2) lk_5_204 (by decide) rfl (Nat.le_of_ble_eq_true rfl) dX5_isKnown_81 (fun H locs w => ?_)
    refine lv_if_eq (tgt := 98) X.1 X.2.1 dX5_isKnown_84 (by decide) (fun c4 => ?_) (fun c4 => ?_)
    · have hf := px_ip c4 hf
      refine lv_iconst (v := (0 : Int32)) X.1 X.2.1 dX5_isKnown_98 (by decide) ?_
      cases hf
      exact px_retZ X hr hlk narrow_b0 w dX5_isKnown_99
    · have hf := px_in c4 hf
      refine lv_iload_n X.1 X.2.1 dX5_isKnown_87 rfl (lv_at hl 2 rfl) ?_
      obtain ⟨r6, e5, hf⟩ := px_bq_e hf
      refine px_cS (As := [.int p2]) (rest := []) X hml hl w (cC_isChoice l D cs ad e5) lk_5_207 (by decide) rfl (Nat.le_of_ble_eq_true rfl) dX5_isKnown_88 (fun H locs w => ?_)
      refine lv_if_eq (tgt := 98) X.1 X.2.1 dX5_isKnown_91 (by decide) (fun c7 => ?_) (fun c7 => ?_)
      · have hf := px_ip c7 hf
        refine lv_iconst (v := (0 : Int32)) X.1 X.2.1 dX5_isKnown_98 (by decide) ?_
        cases hf
        exact px_retZ X hr hlk narrow_b0 w dX5_isKnown_99
      · have hf := px_in c7 hf
        refine lv_iconst (v := (1 : Int32)) X.1 X.2.1 dX5_isKnown_94 (by decide) ?_
        refine lv_goto (tgt := 99) X.1 X.2.1 dX5_isKnown_95 (by decide) ?_
        cases hf
        exact px_retZ X hr hlk narrow_b1 w dX5_isKnown_99
  · have hf := px_in c1 hf
    by_cases c8 : p0 = (1 : Int32)
    · have hf := px_ip c8 hf
      refine lv_tableIn (tgt := 100) X.1 X.2.1 dX5_isKnown_1 (by rw [c8]; decide) (by rw [c8]; decide) (by rw [c8]; rfl) (by decide) ?_
      refine lv_iload_n X.1 X.2.1 dX5_isKnown_100 rfl (lv_at hl 1 rfl) ?_
      obtain ⟨r10, e9, hf⟩ := px_bq_e hf
      refine px_cS (As := [.int p1]) (rest := []) X hml hl w (cC_isFunction l D cs ad e9) lk_5_91 (by decide) rfl (Nat.le_of_ble_eq_true rfl) dX5_isKnown_101 (fun H locs w => ?_)
      refine lv_if_eq (tgt := 118) X.1 X.2.1 dX5_isKnown_104 (by decide) (fun c11 => ?_) (fun c11 => ?_)
      · have hf := px_ip c11 hf
        refine lv_iconst (v := (0 : Int32)) X.1 X.2.1 dX5_isKnown_118 (by decide) ?_
        cases hf
        exact px_retZ X hr hlk narrow_b0 w dX5_isKnown_119
      · have hf := px_in c11 hf
        refine lv_iload_n X.1 X.2.1 dX5_isKnown_107 rfl (lv_at hl 2 rfl) ?_
        obtain ⟨r13, e12, hf⟩ := px_bq_e hf
        refine px_cS (As := [.int p2]) (rest := []) X hml hl w (cC_isSource l D cs ad e12) lk_5_124 (by decide) rfl (Nat.le_of_ble_eq_true rfl) dX5_isKnown_108 (fun H locs w => ?_)
        refine lv_if_eq (tgt := 118) X.1 X.2.1 dX5_isKnown_111 (by decide) (fun c14 => ?_) (fun c14 => ?_)
        · have hf := px_ip c14 hf
          refine lv_iconst (v := (0 : Int32)) X.1 X.2.1 dX5_isKnown_118 (by decide) ?_
          cases hf
          exact px_retZ X hr hlk narrow_b0 w dX5_isKnown_119
        · have hf := px_in c14 hf
          refine lv_iconst (v := (1 : Int32)) X.1 X.2.1 dX5_isKnown_114 (by decide) ?_
          refine lv_goto (tgt := 119) X.1 X.2.1 dX5_isKnown_115 (by decide) ?_
          cases hf
          exact px_retZ X hr hlk narrow_b1 w dX5_isKnown_119
    · have hf := px_in c8 hf
      by_cases c15 : p0 = (2 : Int32)
      · have hf := px_ip c15 hf
        refine lv_tableIn (tgt := 120) X.1 X.2.1 dX5_isKnown_1 (by rw [c15]; decide) (by rw [c15]; decide) (by rw [c15]; rfl) (by decide) ?_
        refine lv_iload_n X.1 X.2.1 dX5_isKnown_120 rfl (lv_at hl 1 rfl) ?_
        obtain ⟨r17, e16, hf⟩ := px_bq_e hf
        refine px_cS (As := [.int p1]) (rest := []) X hml hl w (cC_isFunction l D cs ad e16) lk_5_91 (by decide) rfl (Nat.le_of_ble_eq_true rfl) dX5_isKnown_121 (fun H locs w => ?_)
        obtain ⟨b18, hf⟩ := px_cb_e hf
        cases hf
        exact px_retZ X hr hlk b18 w dX5_isKnown_124
      · have hf := px_in c15 hf
        by_cases c19 : p0 = (3 : Int32)
        · have hf := px_ip c19 hf
          refine lv_tableIn (tgt := 125) X.1 X.2.1 dX5_isKnown_1 (by rw [c19]; decide) (by rw [c19]; decide) (by rw [c19]; rfl) (by decide) ?_
          refine lv_iload_n X.1 X.2.1 dX5_isKnown_125 rfl (lv_at hl 1 rfl) ?_
          obtain ⟨r21, e20, hf⟩ := px_bq_e hf
          refine px_cS (As := [.int p1]) (rest := []) X hml hl w (cC_isFunction l D cs ad e20) lk_5_91 (by decide) rfl (Nat.le_of_ble_eq_true rfl) dX5_isKnown_126 (fun H locs w => ?_)
          refine lv_if_eq (tgt := 147) X.1 X.2.1 dX5_isKnown_129 (by decide) (fun c22 => ?_) (fun c22 => ?_)
          · have hf := px_ip c22 hf
            refine lv_iconst (v := (0 : Int32)) X.1 X.2.1 dX5_isKnown_147 (by decide) ?_
            cases hf
            exact px_retZ X hr hlk narrow_b0 w dX5_isKnown_148
          · have hf := px_in c22 hf
            refine lv_iload_n X.1 X.2.1 dX5_isKnown_132 rfl (lv_at hl 2 rfl) ?_
            refine lv_iconst (v := (0 : Int32)) X.1 X.2.1 dX5_isKnown_133 (by decide) ?_
            refine lv_sipush (v := (200 : Int32)) X.1 X.2.1 dX5_isKnown_134 (by decide) ?_
            obtain ⟨r24, e23, hf⟩ := px_bq_e hf
            refine px_cS (As := [.int p2, .int (0 : Int32), .int (200 : Int32)]) (rest := []) X hml hl w (cC_isWithin l D cs ad e23) lk_5_155 (by decide) rfl (Nat.le_of_ble_eq_true rfl) dX5_isKnown_137 (fun H locs w => ?_)
            refine lv_if_eq (tgt := 147) X.1 X.2.1 dX5_isKnown_140 (by decide) (fun c25 => ?_) (fun c25 => ?_)
            · have hf := px_ip c25 hf
              refine lv_iconst (v := (0 : Int32)) X.1 X.2.1 dX5_isKnown_147 (by decide) ?_
              cases hf
              exact px_retZ X hr hlk narrow_b0 w dX5_isKnown_148
            · have hf := px_in c25 hf
              refine lv_iconst (v := (1 : Int32)) X.1 X.2.1 dX5_isKnown_143 (by decide) ?_
              refine lv_goto (tgt := 148) X.1 X.2.1 dX5_isKnown_144 (by decide) ?_
              cases hf
              exact px_retZ X hr hlk narrow_b1 w dX5_isKnown_148
        · have hf := px_in c19 hf
          by_cases c26 : p0 = (4 : Int32)
          · have hf := px_ip c26 hf
            refine lv_tableIn (tgt := 125) X.1 X.2.1 dX5_isKnown_1 (by rw [c26]; decide) (by rw [c26]; decide) (by rw [c26]; rfl) (by decide) ?_
            refine lv_iload_n X.1 X.2.1 dX5_isKnown_125 rfl (lv_at hl 1 rfl) ?_
            obtain ⟨r28, e27, hf⟩ := px_bq_e hf
            refine px_cS (As := [.int p1]) (rest := []) X hml hl w (cC_isFunction l D cs ad e27) lk_5_91 (by decide) rfl (Nat.le_of_ble_eq_true rfl) dX5_isKnown_126 (fun H locs w => ?_)
            refine lv_if_eq (tgt := 147) X.1 X.2.1 dX5_isKnown_129 (by decide) (fun c29 => ?_) (fun c29 => ?_)
            · have hf := px_ip c29 hf
              refine lv_iconst (v := (0 : Int32)) X.1 X.2.1 dX5_isKnown_147 (by decide) ?_
              cases hf
              exact px_retZ X hr hlk narrow_b0 w dX5_isKnown_148
            · have hf := px_in c29 hf
              refine lv_iload_n X.1 X.2.1 dX5_isKnown_132 rfl (lv_at hl 2 rfl) ?_
              refine lv_iconst (v := (0 : Int32)) X.1 X.2.1 dX5_isKnown_133 (by decide) ?_
              refine lv_sipush (v := (200 : Int32)) X.1 X.2.1 dX5_isKnown_134 (by decide) ?_
              obtain ⟨r31, e30, hf⟩ := px_bq_e hf
              refine px_cS (As := [.int p2, .int (0 : Int32), .int (200 : Int32)]) (rest := []) X hml hl w (cC_isWithin l D cs ad e30) lk_5_155 (by decide) rfl (Nat.le_of_ble_eq_true rfl) dX5_isKnown_137 (fun H locs w => ?_)
              refine lv_if_eq (tgt := 147) X.1 X.2.1 dX5_isKnown_140 (by decide) (fun c32 => ?_) (fun c32 => ?_)
              · have hf := px_ip c32 hf
                refine lv_iconst (v := (0 : Int32)) X.1 X.2.1 dX5_isKnown_147 (by decide) ?_
                cases hf
                exact px_retZ X hr hlk narrow_b0 w dX5_isKnown_148
              · have hf := px_in c32 hf
                refine lv_iconst (v := (1 : Int32)) X.1 X.2.1 dX5_isKnown_143 (by decide) ?_
                refine lv_goto (tgt := 148) X.1 X.2.1 dX5_isKnown_144 (by decide) ?_
                cases hf
                exact px_retZ X hr hlk narrow_b1 w dX5_isKnown_148
          · have hf := px_in c26 hf
            by_cases c33 : p0 = (5 : Int32)
            · have hf := px_ip c33 hf
              refine lv_tableIn (tgt := 149) X.1 X.2.1 dX5_isKnown_1 (by rw [c33]; decide) (by rw [c33]; decide) (by rw [c33]; rfl) (by decide) ?_
              refine lv_iload_n X.1 X.2.1 dX5_isKnown_149 rfl (lv_at hl 1 rfl) ?_
              obtain ⟨r35, e34, hf⟩ := px_bq_e hf
              refine px_cS (As := [.int p1]) (rest := []) X hml hl w (cC_isNumber l D cs ad e34) lk_5_204 (by decide) rfl (Nat.le_of_ble_eq_true rfl) dX5_isKnown_150 (fun H locs w => ?_)
              obtain ⟨b36, hf⟩ := px_cb_e hf
              cases hf
              exact px_retZ X hr hlk b36 w dX5_isKnown_153
            · have hf := px_in c33 hf
              by_cases c37 : p0 = (6 : Int32)
              · have hf := px_ip c37 hf
                refine lv_tableIn (tgt := 80) X.1 X.2.1 dX5_isKnown_1 (by rw [c37]; decide) (by rw [c37]; decide) (by rw [c37]; rfl) (by decide) ?_
                refine lv_iload_n X.1 X.2.1 dX5_isKnown_80 rfl (lv_at hl 1 rfl) ?_
                obtain ⟨r39, e38, hf⟩ := px_bq_e hf
                refine px_cS (As := [.int p1]) (rest := []) X hml hl w (cC_isNumber l D cs ad e38) lk_5_204 (by decide) rfl (Nat.le_of_ble_eq_true rfl) dX5_isKnown_81 (fun H locs w => ?_)
                refine lv_if_eq (tgt := 98) X.1 X.2.1 dX5_isKnown_84 (by decide) (fun c40 => ?_) (fun c40 => ?_)
                · have hf := px_ip c40 hf
                  refine lv_iconst (v := (0 : Int32)) X.1 X.2.1 dX5_isKnown_98 (by decide) ?_
                  cases hf
                  exact px_retZ X hr hlk narrow_b0 w dX5_isKnown_99
                · have hf := px_in c40 hf
                  refine lv_iload_n X.1 X.2.1 dX5_isKnown_87 rfl (lv_at hl 2 rfl) ?_
                  obtain ⟨r42, e41, hf⟩ := px_bq_e hf
                  refine px_cS (As := [.int p2]) (rest := []) X hml hl w (cC_isChoice l D cs ad e41) lk_5_207 (by decide) rfl (Nat.le_of_ble_eq_true rfl) dX5_isKnown_88 (fun H locs w => ?_)
                  refine lv_if_eq (tgt := 98) X.1 X.2.1 dX5_isKnown_91 (by decide) (fun c43 => ?_) (fun c43 => ?_)
                  · have hf := px_ip c43 hf
                    refine lv_iconst (v := (0 : Int32)) X.1 X.2.1 dX5_isKnown_98 (by decide) ?_
                    cases hf
                    exact px_retZ X hr hlk narrow_b0 w dX5_isKnown_99
                  · have hf := px_in c43 hf
                    refine lv_iconst (v := (1 : Int32)) X.1 X.2.1 dX5_isKnown_94 (by decide) ?_
                    refine lv_goto (tgt := 99) X.1 X.2.1 dX5_isKnown_95 (by decide) ?_
                    cases hf
                    exact px_retZ X hr hlk narrow_b1 w dX5_isKnown_99
              · have hf := px_in c37 hf
                by_cases c44 : p0 = (7 : Int32)
                · have hf := px_ip c44 hf
                  refine lv_tableIn (tgt := 120) X.1 X.2.1 dX5_isKnown_1 (by rw [c44]; decide) (by rw [c44]; decide) (by rw [c44]; rfl) (by decide) ?_
                  refine lv_iload_n X.1 X.2.1 dX5_isKnown_120 rfl (lv_at hl 1 rfl) ?_
                  obtain ⟨r46, e45, hf⟩ := px_bq_e hf
                  refine px_cS (As := [.int p1]) (rest := []) X hml hl w (cC_isFunction l D cs ad e45) lk_5_91 (by decide) rfl (Nat.le_of_ble_eq_true rfl) dX5_isKnown_121 (fun H locs w => ?_)
                  obtain ⟨b47, hf⟩ := px_cb_e hf
                  cases hf
                  exact px_retZ X hr hlk b47 w dX5_isKnown_124
                · have hf := px_in c44 hf
                  by_cases c48 : p0 = (8 : Int32)
                  · have hf := px_ip c48 hf
                    refine lv_tableIn (tgt := 154) X.1 X.2.1 dX5_isKnown_1 (by rw [c48]; decide) (by rw [c48]; decide) (by rw [c48]; rfl) (by decide) ?_
                    refine lv_iload_n X.1 X.2.1 dX5_isKnown_154 rfl (lv_at hl 1 rfl) ?_
                    obtain ⟨r50, e49, hf⟩ := px_bq_e hf
                    refine px_cS (As := [.int p1]) (rest := []) X hml hl w (cC_isFunction l D cs ad e49) lk_5_91 (by decide) rfl (Nat.le_of_ble_eq_true rfl) dX5_isKnown_155 (fun H locs w => ?_)
                    refine lv_if_eq (tgt := 172) X.1 X.2.1 dX5_isKnown_158 (by decide) (fun c51 => ?_) (fun c51 => ?_)
                    · have hf := px_ip c51 hf
                      refine lv_iconst (v := (0 : Int32)) X.1 X.2.1 dX5_isKnown_172 (by decide) ?_
                      cases hf
                      exact px_retZ X hr hlk narrow_b0 w dX5_isKnown_173
                    · have hf := px_in c51 hf
                      refine lv_iload_n X.1 X.2.1 dX5_isKnown_161 rfl (lv_at hl 2 rfl) ?_
                      obtain ⟨r53, e52, hf⟩ := px_bq_e hf
                      refine px_cS (As := [.int p2]) (rest := []) X hml hl w (cC_isFunction l D cs ad e52) lk_5_91 (by decide) rfl (Nat.le_of_ble_eq_true rfl) dX5_isKnown_162 (fun H locs w => ?_)
                      refine lv_if_eq (tgt := 172) X.1 X.2.1 dX5_isKnown_165 (by decide) (fun c54 => ?_) (fun c54 => ?_)
                      · have hf := px_ip c54 hf
                        refine lv_iconst (v := (0 : Int32)) X.1 X.2.1 dX5_isKnown_172 (by decide) ?_
                        cases hf
                        exact px_retZ X hr hlk narrow_b0 w dX5_isKnown_173
                      · have hf := px_in c54 hf
                        refine lv_iconst (v := (1 : Int32)) X.1 X.2.1 dX5_isKnown_168 (by decide) ?_
                        refine lv_goto (tgt := 173) X.1 X.2.1 dX5_isKnown_169 (by decide) ?_
                        cases hf
                        exact px_retZ X hr hlk narrow_b1 w dX5_isKnown_173
                  · have hf := px_in c48 hf
                    by_cases c55 : p0 = (9 : Int32)
                    · have hf := px_ip c55 hf
                      refine lv_tableIn (tgt := 174) X.1 X.2.1 dX5_isKnown_1 (by rw [c55]; decide) (by rw [c55]; decide) (by rw [c55]; rfl) (by decide) ?_
                      refine lv_iload_n X.1 X.2.1 dX5_isKnown_174 rfl (lv_at hl 2 rfl) ?_
                      refine lv_iconst (v := (2 : Int32)) X.1 X.2.1 dX5_isKnown_175 (by decide) ?_
                      refine lv_icmp_ne (tgt := 186) X.1 X.2.1 dX5_isKnown_176 (by decide) (fun c56 => ?_) (fun c56 => ?_)
                      · have hf := px_in c56 hf
                        refine lv_iload_n X.1 X.2.1 dX5_isKnown_186 rfl (lv_at hl 1 rfl) ?_
                        obtain ⟨r58, e57, hf⟩ := px_bq_e hf
                        refine px_cS (As := [.int p1]) (rest := []) X hml hl w (cC_isNumber l D cs ad e57) lk_5_204 (by decide) rfl (Nat.le_of_ble_eq_true rfl) dX5_isKnown_187 (fun H locs w => ?_)
                        refine lv_if_eq (tgt := 204) X.1 X.2.1 dX5_isKnown_190 (by decide) (fun c59 => ?_) (fun c59 => ?_)
                        · have hf := px_ip c59 hf
                          refine lv_iconst (v := (0 : Int32)) X.1 X.2.1 dX5_isKnown_204 (by decide) ?_
                          cases hf
                          exact px_retZ X hr hlk narrow_b0 w dX5_isKnown_205
                        · have hf := px_in c59 hf
                          refine lv_iload_n X.1 X.2.1 dX5_isKnown_193 rfl (lv_at hl 2 rfl) ?_
                          obtain ⟨r61, e60, hf⟩ := px_bq_e hf
                          refine px_cS (As := [.int p2]) (rest := []) X hml hl w (cC_isChoice l D cs ad e60) lk_5_207 (by decide) rfl (Nat.le_of_ble_eq_true rfl) dX5_isKnown_194 (fun H locs w => ?_)
                          refine lv_if_eq (tgt := 204) X.1 X.2.1 dX5_isKnown_197 (by decide) (fun c62 => ?_) (fun c62 => ?_)
                          · have hf := px_ip c62 hf
                            refine lv_iconst (v := (0 : Int32)) X.1 X.2.1 dX5_isKnown_204 (by decide) ?_
                            cases hf
                            exact px_retZ X hr hlk narrow_b0 w dX5_isKnown_205
                          · have hf := px_in c62 hf
                            refine lv_iconst (v := (1 : Int32)) X.1 X.2.1 dX5_isKnown_200 (by decide) ?_
                            refine lv_goto (tgt := 205) X.1 X.2.1 dX5_isKnown_201 (by decide) ?_
                            cases hf
                            exact px_retZ X hr hlk narrow_b1 w dX5_isKnown_205
                      · have hf := px_ip c56 hf
                        refine lv_iload_n X.1 X.2.1 dX5_isKnown_179 rfl (lv_at hl 1 rfl) ?_
                        obtain ⟨r64, e63, hf⟩ := px_bq_e hf
                        refine px_cS (As := [.int p1]) (rest := []) X hml hl w (cC_isRegister l D cs ad e63) lk_5_164 (by decide) rfl (Nat.le_of_ble_eq_true rfl) dX5_isKnown_180 (fun H locs w => ?_)
                        refine lv_goto (tgt := 205) X.1 X.2.1 dX5_isKnown_183 (by decide) ?_
                        obtain ⟨b65, hf⟩ := px_cb_e hf
                        cases hf
                        exact px_retZ X hr hlk b65 w dX5_isKnown_205
                    · have hf := px_in c55 hf
                      by_cases c66 : p0 = (10 : Int32)
                      · have hf := px_ip c66 hf
                        refine lv_tableIn (tgt := 206) X.1 X.2.1 dX5_isKnown_1 (by rw [c66]; decide) (by rw [c66]; decide) (by rw [c66]; rfl) (by decide) ?_
                        refine lv_iload_n X.1 X.2.1 dX5_isKnown_206 rfl (lv_at hl 1 rfl) ?_
                        obtain ⟨r68, e67, hf⟩ := px_bq_e hf
                        refine px_cS (As := [.int p1]) (rest := []) X hml hl w (cC_isRegister l D cs ad e67) lk_5_164 (by decide) rfl (Nat.le_of_ble_eq_true rfl) dX5_isKnown_207 (fun H locs w => ?_)
                        obtain ⟨b69, hf⟩ := px_cb_e hf
                        cases hf
                        exact px_retZ X hr hlk b69 w dX5_isKnown_210
                      · have hf := px_in c66 hf
                        by_cases c70 : p0 = (11 : Int32)
                        · have hf := px_ip c70 hf
                          refine lv_tableIn (tgt := 211) X.1 X.2.1 dX5_isKnown_1 (by rw [c70]; decide) (by rw [c70]; decide) (by rw [c70]; rfl) (by decide) ?_
                          refine lv_iload_n X.1 X.2.1 dX5_isKnown_211 rfl (lv_at hl 1 rfl) ?_
                          obtain ⟨r72, e71, hf⟩ := px_bq_e hf
                          refine px_cS (As := [.int p1]) (rest := []) X hml hl w (cC_isRegister l D cs ad e71) lk_5_164 (by decide) rfl (Nat.le_of_ble_eq_true rfl) dX5_isKnown_212 (fun H locs w => ?_)
                          refine lv_if_eq (tgt := 229) X.1 X.2.1 dX5_isKnown_215 (by decide) (fun c73 => ?_) (fun c73 => ?_)
                          · have hf := px_ip c73 hf
                            refine lv_iconst (v := (0 : Int32)) X.1 X.2.1 dX5_isKnown_229 (by decide) ?_
                            cases hf
                            exact px_retZ X hr hlk narrow_b0 w dX5_isKnown_230
                          · have hf := px_in c73 hf
                            refine lv_iload_n X.1 X.2.1 dX5_isKnown_218 rfl (lv_at hl 2 rfl) ?_
                            obtain ⟨r75, e74, hf⟩ := px_bq_e hf
                            refine px_cS (As := [.int p2]) (rest := []) X hml hl w (cC_isChoice l D cs ad e74) lk_5_207 (by decide) rfl (Nat.le_of_ble_eq_true rfl) dX5_isKnown_219 (fun H locs w => ?_)
                            refine lv_if_eq (tgt := 229) X.1 X.2.1 dX5_isKnown_222 (by decide) (fun c76 => ?_) (fun c76 => ?_)
                            · have hf := px_ip c76 hf
                              refine lv_iconst (v := (0 : Int32)) X.1 X.2.1 dX5_isKnown_229 (by decide) ?_
                              cases hf
                              exact px_retZ X hr hlk narrow_b0 w dX5_isKnown_230
                            · have hf := px_in c76 hf
                              refine lv_iconst (v := (1 : Int32)) X.1 X.2.1 dX5_isKnown_225 (by decide) ?_
                              refine lv_goto (tgt := 230) X.1 X.2.1 dX5_isKnown_226 (by decide) ?_
                              cases hf
                              exact px_retZ X hr hlk narrow_b1 w dX5_isKnown_230
                        · have hf := px_in c70 hf
                          by_cases c77 : p0 = (12 : Int32)
                          · have hf := px_ip c77 hf
                            refine lv_tableIn (tgt := 231) X.1 X.2.1 dX5_isKnown_1 (by rw [c77]; decide) (by rw [c77]; decide) (by rw [c77]; rfl) (by decide) ?_
                            refine lv_iload_n X.1 X.2.1 dX5_isKnown_231 rfl (lv_at hl 1 rfl) ?_
                            obtain ⟨r79, e78, hf⟩ := px_bq_e hf
                            refine px_cS (As := [.int p1]) (rest := []) X hml hl w (cC_isRegister l D cs ad e78) lk_5_164 (by decide) rfl (Nat.le_of_ble_eq_true rfl) dX5_isKnown_232 (fun H locs w => ?_)
                            refine lv_if_eq (tgt := 249) X.1 X.2.1 dX5_isKnown_235 (by decide) (fun c80 => ?_) (fun c80 => ?_)
                            · have hf := px_ip c80 hf
                              refine lv_iconst (v := (0 : Int32)) X.1 X.2.1 dX5_isKnown_249 (by decide) ?_
                              cases hf
                              exact px_retZ X hr hlk narrow_b0 w dX5_isKnown_250
                            · have hf := px_in c80 hf
                              refine lv_iload_n X.1 X.2.1 dX5_isKnown_238 rfl (lv_at hl 2 rfl) ?_
                              obtain ⟨r82, e81, hf⟩ := px_bq_e hf
                              refine px_cS (As := [.int p2]) (rest := []) X hml hl w (cC_isRegister l D cs ad e81) lk_5_164 (by decide) rfl (Nat.le_of_ble_eq_true rfl) dX5_isKnown_239 (fun H locs w => ?_)
                              refine lv_if_eq (tgt := 249) X.1 X.2.1 dX5_isKnown_242 (by decide) (fun c83 => ?_) (fun c83 => ?_)
                              · have hf := px_ip c83 hf
                                refine lv_iconst (v := (0 : Int32)) X.1 X.2.1 dX5_isKnown_249 (by decide) ?_
                                cases hf
                                exact px_retZ X hr hlk narrow_b0 w dX5_isKnown_250
                              · have hf := px_in c83 hf
                                refine lv_iconst (v := (1 : Int32)) X.1 X.2.1 dX5_isKnown_245 (by decide) ?_
                                refine lv_goto (tgt := 250) X.1 X.2.1 dX5_isKnown_246 (by decide) ?_
                                cases hf
                                exact px_retZ X hr hlk narrow_b1 w dX5_isKnown_250
                          · have hf := px_in c77 hf
                            by_cases c84 : p0 = (13 : Int32)
                            · have hf := px_ip c84 hf
                              refine lv_tableIn (tgt := 251) X.1 X.2.1 dX5_isKnown_1 (by rw [c84]; decide) (by rw [c84]; decide) (by rw [c84]; rfl) (by decide) ?_
                              refine lv_iload_n X.1 X.2.1 dX5_isKnown_251 rfl (lv_at hl 1 rfl) ?_
                              obtain ⟨r86, e85, hf⟩ := px_bq_e hf
                              refine px_cS (As := [.int p1]) (rest := []) X hml hl w (cC_isRegister l D cs ad e85) lk_5_164 (by decide) rfl (Nat.le_of_ble_eq_true rfl) dX5_isKnown_252 (fun H locs w => ?_)
                              refine lv_if_eq (tgt := 273) X.1 X.2.1 dX5_isKnown_255 (by decide) (fun c87 => ?_) (fun c87 => ?_)
                              · have hf := px_ip c87 hf
                                refine lv_iconst (v := (0 : Int32)) X.1 X.2.1 dX5_isKnown_273 (by decide) ?_
                                cases hf
                                exact px_retZ X hr hlk narrow_b0 w dX5_isKnown_274
                              · have hf := px_in c87 hf
                                refine lv_iload_n X.1 X.2.1 dX5_isKnown_258 rfl (lv_at hl 2 rfl) ?_
                                refine lv_iconst (v := (0 : Int32)) X.1 X.2.1 dX5_isKnown_259 (by decide) ?_
                                refine lv_sipush (v := (255 : Int32)) X.1 X.2.1 dX5_isKnown_260 (by decide) ?_
                                obtain ⟨r89, e88, hf⟩ := px_bq_e hf
                                refine px_cS (As := [.int p2, .int (0 : Int32), .int (255 : Int32)]) (rest := []) X hml hl w (cC_isWithin l D cs ad e88) lk_5_155 (by decide) rfl (Nat.le_of_ble_eq_true rfl) dX5_isKnown_263 (fun H locs w => ?_)
                                refine lv_if_eq (tgt := 273) X.1 X.2.1 dX5_isKnown_266 (by decide) (fun c90 => ?_) (fun c90 => ?_)
                                · have hf := px_ip c90 hf
                                  refine lv_iconst (v := (0 : Int32)) X.1 X.2.1 dX5_isKnown_273 (by decide) ?_
                                  cases hf
                                  exact px_retZ X hr hlk narrow_b0 w dX5_isKnown_274
                                · have hf := px_in c90 hf
                                  refine lv_iconst (v := (1 : Int32)) X.1 X.2.1 dX5_isKnown_269 (by decide) ?_
                                  refine lv_goto (tgt := 274) X.1 X.2.1 dX5_isKnown_270 (by decide) ?_
                                  cases hf
                                  exact px_retZ X hr hlk narrow_b1 w dX5_isKnown_274
                            · have hf := px_in c84 hf
                              by_cases c91 : p0 = (14 : Int32)
                              · have hf := px_ip c91 hf
                                refine lv_tableIn (tgt := 120) X.1 X.2.1 dX5_isKnown_1 (by rw [c91]; decide) (by rw [c91]; decide) (by rw [c91]; rfl) (by decide) ?_
                                refine lv_iload_n X.1 X.2.1 dX5_isKnown_120 rfl (lv_at hl 1 rfl) ?_
                                obtain ⟨r93, e92, hf⟩ := px_bq_e hf
                                refine px_cS (As := [.int p1]) (rest := []) X hml hl w (cC_isFunction l D cs ad e92) lk_5_91 (by decide) rfl (Nat.le_of_ble_eq_true rfl) dX5_isKnown_121 (fun H locs w => ?_)
                                obtain ⟨b94, hf⟩ := px_cb_e hf
                                cases hf
                                exact px_retZ X hr hlk b94 w dX5_isKnown_124
                              · have hf := px_in c91 hf
                                by_cases c95 : p0 = (15 : Int32)
                                · have hf := px_ip c95 hf
                                  refine lv_tableIn (tgt := 231) X.1 X.2.1 dX5_isKnown_1 (by rw [c95]; decide) (by rw [c95]; decide) (by rw [c95]; rfl) (by decide) ?_
                                  refine lv_iload_n X.1 X.2.1 dX5_isKnown_231 rfl (lv_at hl 1 rfl) ?_
                                  obtain ⟨r97, e96, hf⟩ := px_bq_e hf
                                  refine px_cS (As := [.int p1]) (rest := []) X hml hl w (cC_isRegister l D cs ad e96) lk_5_164 (by decide) rfl (Nat.le_of_ble_eq_true rfl) dX5_isKnown_232 (fun H locs w => ?_)
                                  refine lv_if_eq (tgt := 249) X.1 X.2.1 dX5_isKnown_235 (by decide) (fun c98 => ?_) (fun c98 => ?_)
                                  · have hf := px_ip c98 hf
                                    refine lv_iconst (v := (0 : Int32)) X.1 X.2.1 dX5_isKnown_249 (by decide) ?_
                                    cases hf
                                    exact px_retZ X hr hlk narrow_b0 w dX5_isKnown_250
                                  · have hf := px_in c98 hf
                                    refine lv_iload_n X.1 X.2.1 dX5_isKnown_238 rfl (lv_at hl 2 rfl) ?_
                                    obtain ⟨r100, e99, hf⟩ := px_bq_e hf
                                    refine px_cS (As := [.int p2]) (rest := []) X hml hl w (cC_isRegister l D cs ad e99) lk_5_164 (by decide) rfl (Nat.le_of_ble_eq_true rfl) dX5_isKnown_239 (fun H locs w => ?_)
                                    refine lv_if_eq (tgt := 249) X.1 X.2.1 dX5_isKnown_242 (by decide) (fun c101 => ?_) (fun c101 => ?_)
                                    · have hf := px_ip c101 hf
                                      refine lv_iconst (v := (0 : Int32)) X.1 X.2.1 dX5_isKnown_249 (by decide) ?_
                                      cases hf
                                      exact px_retZ X hr hlk narrow_b0 w dX5_isKnown_250
                                    · have hf := px_in c101 hf
                                      refine lv_iconst (v := (1 : Int32)) X.1 X.2.1 dX5_isKnown_245 (by decide) ?_
                                      refine lv_goto (tgt := 250) X.1 X.2.1 dX5_isKnown_246 (by decide) ?_
                                      cases hf
                                      exact px_retZ X hr hlk narrow_b1 w dX5_isKnown_250
                                · have hf := px_in c95 hf
                                  refine lv_tableOut (tgt := 275) X.1 X.2.1 dX5_isKnown_1 (by have := px_ne (v := 0) (by decide) c1; have := px_ne (v := 1) (by decide) c8; have := px_ne (v := 2) (by decide) c15; have := px_ne (v := 3) (by decide) c19; have := px_ne (v := 4) (by decide) c26; have := px_ne (v := 5) (by decide) c33; have := px_ne (v := 6) (by decide) c37; have := px_ne (v := 7) (by decide) c44; have := px_ne (v := 8) (by decide) c48; have := px_ne (v := 9) (by decide) c55; have := px_ne (v := 10) (by decide) c66; have := px_ne (v := 11) (by decide) c70; have := px_ne (v := 12) (by decide) c77; have := px_ne (v := 13) (by decide) c84; have := px_ne (v := 14) (by decide) c91; have := px_ne (v := 15) (by decide) c95; omega) (by decide) ?_
                                  refine lv_iconst (v := (0 : Int32)) X.1 X.2.1 dX5_isKnown_275 (by decide) ?_
                                  cases hf
                                  exact px_retZ X hr hlk narrow_b0 w dX5_isKnown_276
theorem lk_5_148 : px_Lk RX5 148 yX2_size cX2_size 1 (some .int) 0 := ⟨px_tb (by decide +kernel) (by decide +kernel), px_tb (by decide +kernel) (by decide +kernel), px_tb (by decide +kernel) (by decide +kernel), px_tb (by decide +kernel) (by decide +kernel), px_tb (by decide +kernel) (by decide +kernel), by decide +kernel, by decide⟩
def gC_waitingTasks_L4 (rc : px_M → Int32 → Int32 → Option Int32) (M : px_M) (y1 y2 : Int32) : Option Int32 := (if (3 : Int32) ≤ y2 then some y1 else (if y2 = 0 then px_bq (fC_Line_size_8 M) (fun r4 => px_bn ((y1 + r4)) (fun x5 => rc M x5 (y2 + (1 : Int32)))) else (if y2 = 1 then px_bq (fC_Line_size_12 M) (fun r8 => px_bn ((y1 + r8)) (fun x9 => rc M x9 (y2 + (1 : Int32)))) else (if y2 = 2 then px_bq (fC_Line_size_16 M) (fun r12 => px_bn ((y1 + r12)) (fun x13 => rc M x13 (y2 + (1 : Int32)))) else none))))
set_option maxHeartbeats 4000000 in
set_option maxRecDepth 100000 in
theorem lC_waitingTasks_L4 {l : Launch} {D : va_G} {cs : Nat → ClassId} {ad : Nat → Nat} {p : Program} {e : Env} {s : State} {m : MethodId} {args : Array Value} {below : List Frame} {meth : Method} {c : Code} {A : Nat → Prop} (X : px_X D (tyC cs) p s m args c cX5_waitingTasks yX5_waitingTasks.cls) (hr : meth.sig.returnType = (some .int)) (hlk : meth.locks = false) (hml : c.maxLocals = 3) : ∀ (j : Nat) (M : px_M) (y1 y2 : Int32) (z : Int32), px_fx2 gC_waitingTasks_L4 j M y1 y2 = some z → ∀ (H : Heap) (locs : List Loc) (ls : Array Slot), px_H D (wC cs ad) A s.heap M H locs → lv_has ls 3 [(0, .ref (ad 0)), (1, .int y1), (2, .int y2)] → W p l e (px_rm 1) s m args below meth c H locs 0 0 (px_QI D (tyC cs) (wC cs ad) below args s A z M) (F0 m 4 ls []) := by
  refine px_fx2_i (P := fun M y1 y2 (z : Int32) => ∀ (H : Heap) (locs : List Loc) (ls : Array Slot), px_H D (wC cs ad) A s.heap M H locs → lv_has ls 3 [(0, .ref (ad 0)), (1, .int y1), (2, .int y2)] → W p l e (px_rm 1) s m args below meth c H locs 0 0 (px_QI D (tyC cs) (wC cs ad) below args s A z M) (F0 m 4 ls [])) ?_
  intro rc ih M y1 y2 z hf H locs ls w hl
  unfold gC_waitingTasks_L4 at hf
  refine lv_iload_n X.1 X.2.1 dX5_waitingTasks_4 rfl (lv_at hl 2 rfl) ?_
  refine lv_iconst (v := (3 : Int32)) X.1 X.2.1 dX5_waitingTasks_5 (by decide) ?_
  refine lv_icmp_ge (tgt := 27) X.1 X.2.1 dX5_waitingTasks_6 (by decide) (fun c1 => ?_) (fun c1 => ?_)
  · have hf := px_ip c1 hf
    refine lv_iload_n X.1 X.2.1 dX5_waitingTasks_27 rfl (lv_at hl 1 rfl) ?_
    cases hf
    exact px_retI X hr hlk w dX5_waitingTasks_28
  · have hf := px_in c1 hf
    refine lv_iload_n X.1 X.2.1 dX5_waitingTasks_9 rfl (lv_at hl 1 rfl) ?_
    refine lv_aload_n X.1 X.2.1 dX5_waitingTasks_10 rfl (lv_at hl 0 rfl) ?_
    refine gtC_0_2 X w dX5_waitingTasks_11 ?_
    refine lv_iload_n X.1 X.2.1 dX5_waitingTasks_14 rfl (lv_at hl 2 rfl) ?_
    by_cases c2 : y2 = 0
    · have hf := px_ip c2 hf
      refine alC_7_0 X w c2 dX5_waitingTasks_15 ?_
      obtain ⟨r4, e3, hf⟩ := px_bq_e hf
      refine px_cI (As := []) (rest := [.int y1]) X hml hl w (cC_Line_size_8 l D cs ad e3) lk_5_148 (by decide) (rcC_8 X.2.2.2.2 w) rfl (Nat.le_of_ble_eq_true rfl) dX5_waitingTasks_16 (fun H locs w => ?_)
      refine lv_iadd X.1 X.2.1 dX5_waitingTasks_19 ?_
      obtain ⟨x5, ex5, hf⟩ := px_bn_e hf
      rw [← ex5]
      refine lv_istore_n (lv' := [(1, .int x5), (0, .ref (ad 0)), (2, .int y2)]) X.1 X.2.1 dX5_waitingTasks_20 rfl hl (by decide) rfl (fun ls hl => ?_)
      refine lv_iinc (v := (y2 + (1 : Int32))) (lv' := [(2, .int (y2 + (1 : Int32))), (1, .int x5), (0, .ref (ad 0))]) X.1 X.2.1 dX5_waitingTasks_21 hl (k := 2) rfl rfl (by decide) rfl (fun ls hl => ?_)
      refine lv_goto (tgt := 4) X.1 X.2.1 dX5_waitingTasks_24 (by decide) ?_
      exact ih M x5 (y2 + (1 : Int32)) _ hf H locs ls w (lv_sub hl [2, 1, 0] rfl)
    · have hf := px_in c2 hf
      by_cases c6 : y2 = 1
      · have hf := px_ip c6 hf
        refine alC_7_1 X w c6 dX5_waitingTasks_15 ?_
        obtain ⟨r8, e7, hf⟩ := px_bq_e hf
        refine px_cI (As := []) (rest := [.int y1]) X hml hl w (cC_Line_size_12 l D cs ad e7) lk_5_148 (by decide) (rcC_12 X.2.2.2.2 w) rfl (Nat.le_of_ble_eq_true rfl) dX5_waitingTasks_16 (fun H locs w => ?_)
        refine lv_iadd X.1 X.2.1 dX5_waitingTasks_19 ?_
        obtain ⟨x9, ex9, hf⟩ := px_bn_e hf
        rw [← ex9]
        refine lv_istore_n (lv' := [(1, .int x9), (0, .ref (ad 0)), (2, .int y2)]) X.1 X.2.1 dX5_waitingTasks_20 rfl hl (by decide) rfl (fun ls hl => ?_)
        refine lv_iinc (v := (y2 + (1 : Int32))) (lv' := [(2, .int (y2 + (1 : Int32))), (1, .int x9), (0, .ref (ad 0))]) X.1 X.2.1 dX5_waitingTasks_21 hl (k := 2) rfl rfl (by decide) rfl (fun ls hl => ?_)
        refine lv_goto (tgt := 4) X.1 X.2.1 dX5_waitingTasks_24 (by decide) ?_
        exact ih M x9 (y2 + (1 : Int32)) _ hf H locs ls w (lv_sub hl [2, 1, 0] rfl)
      · have hf := px_in c6 hf
        by_cases c10 : y2 = 2
        · have hf := px_ip c10 hf
          refine alC_7_2 X w c10 dX5_waitingTasks_15 ?_
          obtain ⟨r12, e11, hf⟩ := px_bq_e hf
          refine px_cI (As := []) (rest := [.int y1]) X hml hl w (cC_Line_size_16 l D cs ad e11) lk_5_148 (by decide) (rcC_16 X.2.2.2.2 w) rfl (Nat.le_of_ble_eq_true rfl) dX5_waitingTasks_16 (fun H locs w => ?_)
          refine lv_iadd X.1 X.2.1 dX5_waitingTasks_19 ?_
          obtain ⟨x13, ex13, hf⟩ := px_bn_e hf
          rw [← ex13]
          refine lv_istore_n (lv' := [(1, .int x13), (0, .ref (ad 0)), (2, .int y2)]) X.1 X.2.1 dX5_waitingTasks_20 rfl hl (by decide) rfl (fun ls hl => ?_)
          refine lv_iinc (v := (y2 + (1 : Int32))) (lv' := [(2, .int (y2 + (1 : Int32))), (1, .int x13), (0, .ref (ad 0))]) X.1 X.2.1 dX5_waitingTasks_21 hl (k := 2) rfl rfl (by decide) rfl (fun ls hl => ?_)
          refine lv_goto (tgt := 4) X.1 X.2.1 dX5_waitingTasks_24 (by decide) ?_
          exact ih M x13 (y2 + (1 : Int32)) _ hf H locs ls w (lv_sub hl [2, 1, 0] rfl)
        · have hf := px_in c10 hf
          cases hf
def fC_waitingTasks (M : px_M) : Option Int32 := px_fx2 gC_waitingTasks_L4 4 M (0 : Int32) (0 : Int32)
set_option maxHeartbeats 4000000 in
set_option maxRecDepth 100000 in
theorem cC_waitingTasks (l : Launch) (D : va_G) (cs : Nat → ClassId) (ad : Nat → Nat) {M : px_M} {r : Int32} (hf : fC_waitingTasks M = some r) : px_mI l D (tyC cs) (wC cs ad) yX5_waitingTasks cX5_waitingTasks 3 (some .int) 1 [.ref (ad 0)] M r M := by
  refine px_ofI (by decide +kernel) (Nat.le_of_ble_eq_true rfl) ?_
  intro p e s m below meth c A ls X hr hlk hml w hl
  have hl : lv_has ls 3 [(0, .ref (ad 0))] := hl
  unfold fC_waitingTasks at hf
  refine lv_iconst (v := (0 : Int32)) X.1 X.2.1 dX5_waitingTasks_0 (by decide) ?_
  refine lv_istore_n (lv' := [(1, .int (0 : Int32)), (0, .ref (ad 0))]) X.1 X.2.1 dX5_waitingTasks_1 rfl hl (by decide) rfl (fun ls hl => ?_)
  refine lv_iconst (v := (0 : Int32)) X.1 X.2.1 dX5_waitingTasks_2 (by decide) ?_
  refine lv_istore_n (lv' := [(2, .int (0 : Int32)), (1, .int (0 : Int32)), (0, .ref (ad 0))]) X.1 X.2.1 dX5_waitingTasks_3 rfl hl (by decide) rfl (fun ls hl => ?_)
  exact lC_waitingTasks_L4 X hr hlk hml 4 M (0 : Int32) (0 : Int32) _ hf _ _ ls w (lv_sub hl [2, 1, 0] rfl)
theorem lk_5_213 : px_Lk RX5 213 yX2_kind cX2_kind 1 (some .int) 0 := ⟨px_tb (by decide +kernel) (by decide +kernel), px_tb (by decide +kernel) (by decide +kernel), px_tb (by decide +kernel) (by decide +kernel), px_tb (by decide +kernel) (by decide +kernel), px_tb (by decide +kernel) (by decide +kernel), by decide +kernel, by decide⟩
theorem lk_5_216 : px_Lk RX5 216 yX2_subject cX2_subject 1 (some .int) 0 := ⟨px_tb (by decide +kernel) (by decide +kernel), px_tb (by decide +kernel) (by decide +kernel), px_tb (by decide +kernel) (by decide +kernel), px_tb (by decide +kernel) (by decide +kernel), px_tb (by decide +kernel) (by decide +kernel), by decide +kernel, by decide⟩
theorem lk_5_240 : px_Lk RX5 240 yX3_functionOf cX3_functionOf 3 (some .int) 1 := ⟨px_tb (by decide +kernel) (by decide +kernel), px_tb (by decide +kernel) (by decide +kernel), px_tb (by decide +kernel) (by decide +kernel), px_tb (by decide +kernel) (by decide +kernel), px_tb (by decide +kernel) (by decide +kernel), by decide +kernel, by decide⟩
def fC_microtaskBeginsRun (M : px_M) : Option Int32 := px_bq (fC_Line_kind_20 M) (fun r2 => (if r2 = 0 then some (1 : Int32) else (if r2 = (2 : Int32) then px_bq (fC_Line_subject_20 M) (fun r6 => px_bq (fC_Promises_functionOf M r6) (fun r8 => px_bq (fC_isFunction M r8) (fun r10 => (if r10 = 0 then some (0 : Int32) else some (1 : Int32))))) else some (0 : Int32))))
set_option maxHeartbeats 4000000 in
set_option maxRecDepth 100000 in
theorem cC_microtaskBeginsRun (l : Launch) (D : va_G) (cs : Nat → ClassId) (ad : Nat → Nat) {M : px_M} {r : Int32} (hf : fC_microtaskBeginsRun M = some r) : px_mI l D (tyC cs) (wC cs ad) yX5_microtaskBeginsRun cX5_microtaskBeginsRun 2 (some .boolean) 2 [.ref (ad 0)] M r M := by
  refine px_ofI (by decide +kernel) (Nat.le_of_ble_eq_true rfl) ?_
  intro p e s m below meth c A ls X hr hlk hml w hl
  have hl : lv_has ls 2 [(0, .ref (ad 0))] := hl
  unfold fC_microtaskBeginsRun at hf
  refine lv_aload_n X.1 X.2.1 dX5_microtaskBeginsRun_0 rfl (lv_at hl 0 rfl) ?_
  refine gtC_0_3 X w dX5_microtaskBeginsRun_1 ?_
  obtain ⟨r2, e1, hf⟩ := px_bq_e hf
  refine px_cI (As := []) (rest := []) X hml hl w (cC_Line_kind_20 l D cs ad e1) lk_5_213 (by decide) (rcC_20 X.2.2.2.2 w) rfl (Nat.le_of_ble_eq_true rfl) dX5_microtaskBeginsRun_4 (fun H locs w => ?_)
  refine lv_istore_n (lv' := [(1, .int r2), (0, .ref (ad 0))]) X.1 X.2.1 dX5_microtaskBeginsRun_7 rfl hl (by decide) rfl (fun ls hl => ?_)
  refine lv_iload_n X.1 X.2.1 dX5_microtaskBeginsRun_8 rfl (lv_at hl 0 rfl) ?_
  refine lv_if_eq (tgt := 37) X.1 X.2.1 dX5_microtaskBeginsRun_9 (by decide) (fun c3 => ?_) (fun c3 => ?_)
  · have hf := px_ip c3 hf
    refine lv_iconst (v := (1 : Int32)) X.1 X.2.1 dX5_microtaskBeginsRun_37 (by decide) ?_
    refine lv_goto (tgt := 42) X.1 X.2.1 dX5_microtaskBeginsRun_38 (by decide) ?_
    cases hf
    exact px_retZ X hr hlk narrow_b1 w dX5_microtaskBeginsRun_42
  · have hf := px_in c3 hf
    refine lv_iload_n X.1 X.2.1 dX5_microtaskBeginsRun_12 rfl (lv_at hl 0 rfl) ?_
    refine lv_iconst (v := (2 : Int32)) X.1 X.2.1 dX5_microtaskBeginsRun_13 (by decide) ?_
    refine lv_icmp_ne (tgt := 41) X.1 X.2.1 dX5_microtaskBeginsRun_14 (by decide) (fun c4 => ?_) (fun c4 => ?_)
    · have hf := px_in c4 hf
      refine lv_iconst (v := (0 : Int32)) X.1 X.2.1 dX5_microtaskBeginsRun_41 (by decide) ?_
      cases hf
      exact px_retZ X hr hlk narrow_b0 w dX5_microtaskBeginsRun_42
    · have hf := px_ip c4 hf
      refine lv_aload_n X.1 X.2.1 dX5_microtaskBeginsRun_17 rfl (lv_at hl 1 rfl) ?_
      refine gtC_0_7 X w dX5_microtaskBeginsRun_18 ?_
      refine lv_aload_n X.1 X.2.1 dX5_microtaskBeginsRun_21 rfl (lv_at hl 1 rfl) ?_
      refine gtC_0_3 X w dX5_microtaskBeginsRun_22 ?_
      obtain ⟨r6, e5, hf⟩ := px_bq_e hf
      refine px_cI (As := []) (rest := [.ref (ad 32)]) X hml hl w (cC_Line_subject_20 l D cs ad e5) lk_5_216 (by decide) (rcC_20 X.2.2.2.2 w) rfl (Nat.le_of_ble_eq_true rfl) dX5_microtaskBeginsRun_25 (fun H locs w => ?_)
      obtain ⟨r8, e7, hf⟩ := px_bq_e hf
      refine px_cI (As := [.int r6]) (rest := []) X hml hl w (cC_Promises_functionOf l D cs ad e7) lk_5_240 (by decide) (rcC_32 X.2.2.2.2 w) rfl (Nat.le_of_ble_eq_true rfl) dX5_microtaskBeginsRun_28 (fun H locs w => ?_)
      obtain ⟨r10, e9, hf⟩ := px_bq_e hf
      refine px_cS (As := [.int r8]) (rest := []) X hml hl w (cC_isFunction l D cs ad e9) lk_5_91 (by decide) rfl (Nat.le_of_ble_eq_true rfl) dX5_microtaskBeginsRun_31 (fun H locs w => ?_)
      refine lv_if_eq (tgt := 41) X.1 X.2.1 dX5_microtaskBeginsRun_34 (by decide) (fun c11 => ?_) (fun c11 => ?_)
      · have hf := px_ip c11 hf
        refine lv_iconst (v := (0 : Int32)) X.1 X.2.1 dX5_microtaskBeginsRun_41 (by decide) ?_
        cases hf
        exact px_retZ X hr hlk narrow_b0 w dX5_microtaskBeginsRun_42
      · have hf := px_in c11 hf
        refine lv_iconst (v := (1 : Int32)) X.1 X.2.1 dX5_microtaskBeginsRun_37 (by decide) ?_
        refine lv_goto (tgt := 42) X.1 X.2.1 dX5_microtaskBeginsRun_38 (by decide) ?_
        cases hf
        exact px_retZ X hr hlk narrow_b1 w dX5_microtaskBeginsRun_42
theorem lk_5_255 : px_Lk RX5 255 yX3_resolveOrReject cX3_resolveOrReject 4 none 3 := ⟨px_tb (by decide +kernel) (by decide +kernel), px_tb (by decide +kernel) (by decide +kernel), px_tb (by decide +kernel) (by decide +kernel), px_tb (by decide +kernel) (by decide +kernel), px_tb (by decide +kernel) (by decide +kernel), by decide +kernel, by decide⟩
theorem lk_5_258 : px_Lk RX5 258 yX3_follow cX3_follow 3 none 2 := ⟨px_tb (by decide +kernel) (by decide +kernel), px_tb (by decide +kernel) (by decide +kernel), px_tb (by decide +kernel) (by decide +kernel), px_tb (by decide +kernel) (by decide +kernel), px_tb (by decide +kernel) (by decide +kernel), by decide +kernel, by decide⟩
def fC_settleWithResult (M : px_M) (p1 : Int32) : Option px_M := (if (M 0 15) = 0 then (if (M 0 16) = 0 then px_bq (fC_Promises_resolveOrReject M p1 (1 : Int32) (M 0 17)) (fun M4 => some M4) else px_bq (fC_Promises_follow M p1 (M 0 17)) (fun M6 => some M6)) else px_bq (fC_Promises_resolveOrReject M p1 (2 : Int32) (M 0 17)) (fun M8 => some M8))
set_option maxHeartbeats 4000000 in
set_option maxRecDepth 100000 in
theorem cC_settleWithResult (l : Launch) (D : va_G) (cs : Nat → ClassId) (ad : Nat → Nat) {M : px_M} {p1 : Int32} {M' : px_M} (hf : fC_settleWithResult M p1 = some M') : px_mV l D (tyC cs) (wC cs ad) yX5_settleWithResult cX5_settleWithResult 2 3 [.ref (ad 0), .int p1] M M' := by
  refine px_ofV (by decide +kernel) (Nat.le_of_ble_eq_true rfl) ?_
  intro p e s m below meth c A ls X hr hlk hml w hl
  have hl : lv_has ls 2 [(0, .ref (ad 0)), (1, .int p1)] := hl
  unfold fC_settleWithResult at hf
  refine lv_aload_n X.1 X.2.1 dX5_settleWithResult_0 rfl (lv_at hl 0 rfl) ?_
  refine gtC_0_15 X w dX5_settleWithResult_1 ?_
  refine lv_if_eq (tgt := 23) X.1 X.2.1 dX5_settleWithResult_4 (by decide) (fun c1 => ?_) (fun c1 => ?_)
  · have hf := px_ip c1 hf
    refine lv_aload_n X.1 X.2.1 dX5_settleWithResult_23 rfl (lv_at hl 0 rfl) ?_
    refine gtC_0_16 X w dX5_settleWithResult_24 ?_
    refine lv_if_eq (tgt := 45) X.1 X.2.1 dX5_settleWithResult_27 (by decide) (fun c2 => ?_) (fun c2 => ?_)
    · have hf := px_ip c2 hf
      refine lv_aload_n X.1 X.2.1 dX5_settleWithResult_45 rfl (lv_at hl 0 rfl) ?_
      refine gtC_0_7 X w dX5_settleWithResult_46 ?_
      refine lv_iload_n X.1 X.2.1 dX5_settleWithResult_49 rfl (lv_at hl 1 rfl) ?_
      refine lv_iconst (v := (1 : Int32)) X.1 X.2.1 dX5_settleWithResult_50 (by decide) ?_
      refine lv_aload_n X.1 X.2.1 dX5_settleWithResult_51 rfl (lv_at hl 0 rfl) ?_
      refine gtC_0_17 X w dX5_settleWithResult_52 ?_
      obtain ⟨M4, e3, hf⟩ := px_bq_e hf
      refine px_cV (As := [.int p1, .int (1 : Int32), .int (M 0 17)]) (rest := []) X hml hl w (cC_Promises_resolveOrReject l D cs ad e3) lk_5_255 (by decide) (rcC_32 X.2.2.2.2 w) rfl (Nat.le_of_ble_eq_true rfl) dX5_settleWithResult_55 (fun H locs w => ?_)
      cases hf
      exact px_retV X hr hlk w dX5_settleWithResult_58
    · have hf := px_in c2 hf
      refine lv_aload_n X.1 X.2.1 dX5_settleWithResult_30 rfl (lv_at hl 0 rfl) ?_
      refine gtC_0_7 X w dX5_settleWithResult_31 ?_
      refine lv_iload_n X.1 X.2.1 dX5_settleWithResult_34 rfl (lv_at hl 1 rfl) ?_
      refine lv_aload_n X.1 X.2.1 dX5_settleWithResult_35 rfl (lv_at hl 0 rfl) ?_
      refine gtC_0_17 X w dX5_settleWithResult_36 ?_
      obtain ⟨M6, e5, hf⟩ := px_bq_e hf
      refine px_cV (As := [.int p1, .int (M 0 17)]) (rest := []) X hml hl w (cC_Promises_follow l D cs ad e5) lk_5_258 (by decide) (rcC_32 X.2.2.2.2 w) rfl (Nat.le_of_ble_eq_true rfl) dX5_settleWithResult_39 (fun H locs w => ?_)
      refine lv_goto (tgt := 58) X.1 X.2.1 dX5_settleWithResult_42 (by decide) ?_
      cases hf
      exact px_retV X hr hlk w dX5_settleWithResult_58
  · have hf := px_in c1 hf
    refine lv_aload_n X.1 X.2.1 dX5_settleWithResult_7 rfl (lv_at hl 0 rfl) ?_
    refine gtC_0_7 X w dX5_settleWithResult_8 ?_
    refine lv_iload_n X.1 X.2.1 dX5_settleWithResult_11 rfl (lv_at hl 1 rfl) ?_
    refine lv_iconst (v := (2 : Int32)) X.1 X.2.1 dX5_settleWithResult_12 (by decide) ?_
    refine lv_aload_n X.1 X.2.1 dX5_settleWithResult_13 rfl (lv_at hl 0 rfl) ?_
    refine gtC_0_17 X w dX5_settleWithResult_14 ?_
    obtain ⟨M8, e7, hf⟩ := px_bq_e hf
    refine px_cV (As := [.int p1, .int (2 : Int32), .int (M 0 17)]) (rest := []) X hml hl w (cC_Promises_resolveOrReject l D cs ad e7) lk_5_255 (by decide) (rcC_32 X.2.2.2.2 w) rfl (Nat.le_of_ble_eq_true rfl) dX5_settleWithResult_17 (fun H locs w => ?_)
    refine lv_goto (tgt := 58) X.1 X.2.1 dX5_settleWithResult_20 (by decide) ?_
    cases hf
    exact px_retV X hr hlk w dX5_settleWithResult_58
def gC_sourceOfNextTask_L22 (rc : px_M → Int32 → Option Int32) (M : px_M) (y1 : Int32) : Option Int32 := (if (3 : Int32) ≤ y1 then some (-1 : Int32) else (if y1 = 0 then px_bq (fC_Line_size_8 M) (fun r8 => (if r8 ≤ 0 then rc M (y1 + (1 : Int32)) else some y1)) else (if y1 = 1 then px_bq (fC_Line_size_12 M) (fun r12 => (if r12 ≤ 0 then rc M (y1 + (1 : Int32)) else some y1)) else (if y1 = 2 then px_bq (fC_Line_size_16 M) (fun r16 => (if r16 ≤ 0 then rc M (y1 + (1 : Int32)) else some y1)) else none))))
set_option maxHeartbeats 4000000 in
set_option maxRecDepth 100000 in
theorem lC_sourceOfNextTask_L22 {l : Launch} {D : va_G} {cs : Nat → ClassId} {ad : Nat → Nat} {p : Program} {e : Env} {s : State} {m : MethodId} {args : Array Value} {below : List Frame} {meth : Method} {c : Code} {A : Nat → Prop} (X : px_X D (tyC cs) p s m args c cX5_sourceOfNextTask yX5_sourceOfNextTask.cls) (hr : meth.sig.returnType = (some .int)) (hlk : meth.locks = false) (hml : c.maxLocals = 2) : ∀ (j : Nat) (M : px_M) (y1 : Int32) (z : Int32), px_fx1 gC_sourceOfNextTask_L22 j M y1 = some z → ∀ (H : Heap) (locs : List Loc) (ls : Array Slot), px_H D (wC cs ad) A s.heap M H locs → lv_has ls 2 [(0, .ref (ad 0)), (1, .int y1)] → W p l e (px_rm 1) s m args below meth c H locs 0 0 (px_QI D (tyC cs) (wC cs ad) below args s A z M) (F0 m 22 ls []) := by
  refine px_fx1_i (P := fun M y1 (z : Int32) => ∀ (H : Heap) (locs : List Loc) (ls : Array Slot), px_H D (wC cs ad) A s.heap M H locs → lv_has ls 2 [(0, .ref (ad 0)), (1, .int y1)] → W p l e (px_rm 1) s m args below meth c H locs 0 0 (px_QI D (tyC cs) (wC cs ad) below args s A z M) (F0 m 22 ls [])) ?_
  intro rc ih M y1 z hf H locs ls w hl
  unfold gC_sourceOfNextTask_L22 at hf
  refine lv_iload_n X.1 X.2.1 dX5_sourceOfNextTask_22 rfl (lv_at hl 1 rfl) ?_
  refine lv_iconst (v := (3 : Int32)) X.1 X.2.1 dX5_sourceOfNextTask_23 (by decide) ?_
  refine lv_icmp_ge (tgt := 47) X.1 X.2.1 dX5_sourceOfNextTask_24 (by decide) (fun c5 => ?_) (fun c5 => ?_)
  · have hf := px_ip c5 hf
    refine lv_iconst (v := (-1 : Int32)) X.1 X.2.1 dX5_sourceOfNextTask_47 (by decide) ?_
    cases hf
    exact px_retI X hr hlk w dX5_sourceOfNextTask_48
  · have hf := px_in c5 hf
    refine lv_aload_n X.1 X.2.1 dX5_sourceOfNextTask_27 rfl (lv_at hl 0 rfl) ?_
    refine gtC_0_2 X w dX5_sourceOfNextTask_28 ?_
    refine lv_iload_n X.1 X.2.1 dX5_sourceOfNextTask_31 rfl (lv_at hl 1 rfl) ?_
    by_cases c6 : y1 = 0
    · have hf := px_ip c6 hf
      refine alC_7_0 X w c6 dX5_sourceOfNextTask_32 ?_
      obtain ⟨r8, e7, hf⟩ := px_bq_e hf
      refine px_cI (As := []) (rest := []) X hml hl w (cC_Line_size_8 l D cs ad e7) lk_5_148 (by decide) (rcC_8 X.2.2.2.2 w) rfl (Nat.le_of_ble_eq_true rfl) dX5_sourceOfNextTask_33 (fun H locs w => ?_)
      refine lv_if_le (tgt := 41) X.1 X.2.1 dX5_sourceOfNextTask_36 (by decide) (fun c9 => ?_) (fun c9 => ?_)
      · have hf := px_ip c9 hf
        refine lv_iinc (v := (y1 + (1 : Int32))) (lv' := [(1, .int (y1 + (1 : Int32))), (0, .ref (ad 0))]) X.1 X.2.1 dX5_sourceOfNextTask_41 hl (k := 1) rfl rfl (by decide) rfl (fun ls hl => ?_)
        refine lv_goto (tgt := 22) X.1 X.2.1 dX5_sourceOfNextTask_44 (by decide) ?_
        exact ih M (y1 + (1 : Int32)) _ hf H locs ls w (lv_sub hl [1, 0] rfl)
      · have hf := px_in c9 hf
        refine lv_iload_n X.1 X.2.1 dX5_sourceOfNextTask_39 rfl (lv_at hl 1 rfl) ?_
        cases hf
        exact px_retI X hr hlk w dX5_sourceOfNextTask_40
    · have hf := px_in c6 hf
      by_cases c10 : y1 = 1
      · have hf := px_ip c10 hf
        refine alC_7_1 X w c10 dX5_sourceOfNextTask_32 ?_
        obtain ⟨r12, e11, hf⟩ := px_bq_e hf
        refine px_cI (As := []) (rest := []) X hml hl w (cC_Line_size_12 l D cs ad e11) lk_5_148 (by decide) (rcC_12 X.2.2.2.2 w) rfl (Nat.le_of_ble_eq_true rfl) dX5_sourceOfNextTask_33 (fun H locs w => ?_)
        refine lv_if_le (tgt := 41) X.1 X.2.1 dX5_sourceOfNextTask_36 (by decide) (fun c13 => ?_) (fun c13 => ?_)
        · have hf := px_ip c13 hf
          refine lv_iinc (v := (y1 + (1 : Int32))) (lv' := [(1, .int (y1 + (1 : Int32))), (0, .ref (ad 0))]) X.1 X.2.1 dX5_sourceOfNextTask_41 hl (k := 1) rfl rfl (by decide) rfl (fun ls hl => ?_)
          refine lv_goto (tgt := 22) X.1 X.2.1 dX5_sourceOfNextTask_44 (by decide) ?_
          exact ih M (y1 + (1 : Int32)) _ hf H locs ls w (lv_sub hl [1, 0] rfl)
        · have hf := px_in c13 hf
          refine lv_iload_n X.1 X.2.1 dX5_sourceOfNextTask_39 rfl (lv_at hl 1 rfl) ?_
          cases hf
          exact px_retI X hr hlk w dX5_sourceOfNextTask_40
      · have hf := px_in c10 hf
        by_cases c14 : y1 = 2
        · have hf := px_ip c14 hf
          refine alC_7_2 X w c14 dX5_sourceOfNextTask_32 ?_
          obtain ⟨r16, e15, hf⟩ := px_bq_e hf
          refine px_cI (As := []) (rest := []) X hml hl w (cC_Line_size_16 l D cs ad e15) lk_5_148 (by decide) (rcC_16 X.2.2.2.2 w) rfl (Nat.le_of_ble_eq_true rfl) dX5_sourceOfNextTask_33 (fun H locs w => ?_)
          refine lv_if_le (tgt := 41) X.1 X.2.1 dX5_sourceOfNextTask_36 (by decide) (fun c17 => ?_) (fun c17 => ?_)
          · have hf := px_ip c17 hf
            refine lv_iinc (v := (y1 + (1 : Int32))) (lv' := [(1, .int (y1 + (1 : Int32))), (0, .ref (ad 0))]) X.1 X.2.1 dX5_sourceOfNextTask_41 hl (k := 1) rfl rfl (by decide) rfl (fun ls hl => ?_)
            refine lv_goto (tgt := 22) X.1 X.2.1 dX5_sourceOfNextTask_44 (by decide) ?_
            exact ih M (y1 + (1 : Int32)) _ hf H locs ls w (lv_sub hl [1, 0] rfl)
          · have hf := px_in c17 hf
            refine lv_iload_n X.1 X.2.1 dX5_sourceOfNextTask_39 rfl (lv_at hl 1 rfl) ?_
            cases hf
            exact px_retI X hr hlk w dX5_sourceOfNextTask_40
        · have hf := px_in c14 hf
          cases hf
def fC_sourceOfNextTask (M : px_M) : Option Int32 := (if (M 0 9) = 0 then px_bq (fC_Line_size_8 M) (fun r3 => (if r3 ≤ 0 then px_fx1 gC_sourceOfNextTask_L22 4 M (0 : Int32) else some (M 0 9))) else (if (M 0 9) = 1 then px_bq (fC_Line_size_12 M) (fun r20 => (if r20 ≤ 0 then px_fx1 gC_sourceOfNextTask_L22 4 M (0 : Int32) else some (M 0 9))) else (if (M 0 9) = 2 then px_bq (fC_Line_size_16 M) (fun r24 => (if r24 ≤ 0 then px_fx1 gC_sourceOfNextTask_L22 4 M (0 : Int32) else some (M 0 9))) else none)))
set_option maxHeartbeats 4000000 in
set_option maxRecDepth 100000 in
theorem cC_sourceOfNextTask (l : Launch) (D : va_G) (cs : Nat → ClassId) (ad : Nat → Nat) {M : px_M} {r : Int32} (hf : fC_sourceOfNextTask M = some r) : px_mI l D (tyC cs) (wC cs ad) yX5_sourceOfNextTask cX5_sourceOfNextTask 2 (some .int) 1 [.ref (ad 0)] M r M := by
  refine px_ofI (by decide +kernel) (Nat.le_of_ble_eq_true rfl) ?_
  intro p e s m below meth c A ls X hr hlk hml w hl
  have hl : lv_has ls 2 [(0, .ref (ad 0))] := hl
  unfold fC_sourceOfNextTask at hf
  refine lv_aload_n X.1 X.2.1 dX5_sourceOfNextTask_0 rfl (lv_at hl 0 rfl) ?_
  refine gtC_0_2 X w dX5_sourceOfNextTask_1 ?_
  refine lv_aload_n X.1 X.2.1 dX5_sourceOfNextTask_4 rfl (lv_at hl 0 rfl) ?_
  refine gtC_0_9 X w dX5_sourceOfNextTask_5 ?_
  by_cases c1 : (M 0 9) = 0
  · have hf := px_ip c1 hf
    refine alC_7_0 X w c1 dX5_sourceOfNextTask_8 ?_
    obtain ⟨r3, e2, hf⟩ := px_bq_e hf
    refine px_cI (As := []) (rest := []) X hml hl w (cC_Line_size_8 l D cs ad e2) lk_5_148 (by decide) (rcC_8 X.2.2.2.2 w) rfl (Nat.le_of_ble_eq_true rfl) dX5_sourceOfNextTask_9 (fun H locs w => ?_)
    refine lv_if_le (tgt := 20) X.1 X.2.1 dX5_sourceOfNextTask_12 (by decide) (fun c4 => ?_) (fun c4 => ?_)
    · have hf := px_ip c4 hf
      refine lv_iconst (v := (0 : Int32)) X.1 X.2.1 dX5_sourceOfNextTask_20 (by decide) ?_
      refine lv_istore_n (lv' := [(1, .int (0 : Int32)), (0, .ref (ad 0))]) X.1 X.2.1 dX5_sourceOfNextTask_21 rfl hl (by decide) rfl (fun ls hl => ?_)
      exact lC_sourceOfNextTask_L22 X hr hlk hml 4 M (0 : Int32) _ hf _ _ ls w (lv_sub hl [1, 0] rfl)
    · have hf := px_in c4 hf
      refine lv_aload_n X.1 X.2.1 dX5_sourceOfNextTask_15 rfl (lv_at hl 0 rfl) ?_
      refine gtC_0_9 X w dX5_sourceOfNextTask_16 ?_
      cases hf
      exact px_retI X hr hlk w dX5_sourceOfNextTask_19
  · have hf := px_in c1 hf
    by_cases c18 : (M 0 9) = 1
    · have hf := px_ip c18 hf
      refine alC_7_1 X w c18 dX5_sourceOfNextTask_8 ?_
      obtain ⟨r20, e19, hf⟩ := px_bq_e hf
      refine px_cI (As := []) (rest := []) X hml hl w (cC_Line_size_12 l D cs ad e19) lk_5_148 (by decide) (rcC_12 X.2.2.2.2 w) rfl (Nat.le_of_ble_eq_true rfl) dX5_sourceOfNextTask_9 (fun H locs w => ?_)
      refine lv_if_le (tgt := 20) X.1 X.2.1 dX5_sourceOfNextTask_12 (by decide) (fun c21 => ?_) (fun c21 => ?_)
      · have hf := px_ip c21 hf
        refine lv_iconst (v := (0 : Int32)) X.1 X.2.1 dX5_sourceOfNextTask_20 (by decide) ?_
        refine lv_istore_n (lv' := [(1, .int (0 : Int32)), (0, .ref (ad 0))]) X.1 X.2.1 dX5_sourceOfNextTask_21 rfl hl (by decide) rfl (fun ls hl => ?_)
        exact lC_sourceOfNextTask_L22 X hr hlk hml 4 M (0 : Int32) _ hf _ _ ls w (lv_sub hl [1, 0] rfl)
      · have hf := px_in c21 hf
        refine lv_aload_n X.1 X.2.1 dX5_sourceOfNextTask_15 rfl (lv_at hl 0 rfl) ?_
        refine gtC_0_9 X w dX5_sourceOfNextTask_16 ?_
        cases hf
        exact px_retI X hr hlk w dX5_sourceOfNextTask_19
    · have hf := px_in c18 hf
      by_cases c22 : (M 0 9) = 2
      · have hf := px_ip c22 hf
        refine alC_7_2 X w c22 dX5_sourceOfNextTask_8 ?_
        obtain ⟨r24, e23, hf⟩ := px_bq_e hf
        refine px_cI (As := []) (rest := []) X hml hl w (cC_Line_size_16 l D cs ad e23) lk_5_148 (by decide) (rcC_16 X.2.2.2.2 w) rfl (Nat.le_of_ble_eq_true rfl) dX5_sourceOfNextTask_9 (fun H locs w => ?_)
        refine lv_if_le (tgt := 20) X.1 X.2.1 dX5_sourceOfNextTask_12 (by decide) (fun c25 => ?_) (fun c25 => ?_)
        · have hf := px_ip c25 hf
          refine lv_iconst (v := (0 : Int32)) X.1 X.2.1 dX5_sourceOfNextTask_20 (by decide) ?_
          refine lv_istore_n (lv' := [(1, .int (0 : Int32)), (0, .ref (ad 0))]) X.1 X.2.1 dX5_sourceOfNextTask_21 rfl hl (by decide) rfl (fun ls hl => ?_)
          exact lC_sourceOfNextTask_L22 X hr hlk hml 4 M (0 : Int32) _ hf _ _ ls w (lv_sub hl [1, 0] rfl)
        · have hf := px_in c25 hf
          refine lv_aload_n X.1 X.2.1 dX5_sourceOfNextTask_15 rfl (lv_at hl 0 rfl) ?_
          refine gtC_0_9 X w dX5_sourceOfNextTask_16 ?_
          cases hf
          exact px_retI X hr hlk w dX5_sourceOfNextTask_19
      · have hf := px_in c22 hf
        cases hf
theorem lk_5_289 : px_Lk RX5 289 yX1_keep cX1_keep 2 none 1 := ⟨px_tb (by decide +kernel) (by decide +kernel), px_tb (by decide +kernel) (by decide +kernel), px_tb (by decide +kernel) (by decide +kernel), px_tb (by decide +kernel) (by decide +kernel), px_tb (by decide +kernel) (by decide +kernel), by decide +kernel, by decide⟩
def fC_reportFailure (M : px_M) : Option px_M := (if (M 0 15) = 0 then some M else px_bq (fC_Journal_keep_30 M ((10000 : Int32) + (M 0 17))) (fun M3 => some M3))
set_option maxHeartbeats 4000000 in
set_option maxRecDepth 100000 in
theorem cC_reportFailure (l : Launch) (D : va_G) (cs : Nat → ClassId) (ad : Nat → Nat) {M : px_M} {M' : px_M} (hf : fC_reportFailure M = some M') : px_mV l D (tyC cs) (wC cs ad) yX5_reportFailure cX5_reportFailure 1 1 [.ref (ad 0)] M M' := by
  refine px_ofV (by decide +kernel) (Nat.le_of_ble_eq_true rfl) ?_
  intro p e s m below meth c A ls X hr hlk hml w hl
  have hl : lv_has ls 1 [(0, .ref (ad 0))] := hl
  unfold fC_reportFailure at hf
  refine lv_aload_n X.1 X.2.1 dX5_reportFailure_0 rfl (lv_at hl 0 rfl) ?_
  refine gtC_0_15 X w dX5_reportFailure_1 ?_
  refine lv_if_eq (tgt := 22) X.1 X.2.1 dX5_reportFailure_4 (by decide) (fun c1 => ?_) (fun c1 => ?_)
  · have hf := px_ip c1 hf
    cases hf
    exact px_retV X hr hlk w dX5_reportFailure_22
  · have hf := px_in c1 hf
    refine lv_aload_n X.1 X.2.1 dX5_reportFailure_7 rfl (lv_at hl 0 rfl) ?_
    refine gtC_0_6 X w dX5_reportFailure_8 ?_
    refine lv_sipush (v := (10000 : Int32)) X.1 X.2.1 dX5_reportFailure_11 (by decide) ?_
    refine lv_aload_n X.1 X.2.1 dX5_reportFailure_14 rfl (lv_at hl 0 rfl) ?_
    refine gtC_0_17 X w dX5_reportFailure_15 ?_
    refine lv_iadd X.1 X.2.1 dX5_reportFailure_18 ?_
    obtain ⟨M3, e2, hf⟩ := px_bq_e hf
    refine px_cV (As := [.int ((10000 : Int32) + (M 0 17))]) (rest := []) X hml hl w (cC_Journal_keep_30 l D cs ad e2) lk_5_289 (by decide) (rcC_30 X.2.2.2.2 w) rfl (Nat.le_of_ble_eq_true rfl) dX5_reportFailure_19 (fun H locs w => ?_)
    cases hf
    exact px_retV X hr hlk w dX5_reportFailure_22
def fC_fail (M : px_M) (p1 : Int32) : Option px_M := px_bn (px_up M 0 15 (1 : Int32)) (fun M1 => px_bn (px_up M1 0 17 p1) (fun M2 => some M2))
set_option maxHeartbeats 4000000 in
set_option maxRecDepth 100000 in
theorem cC_fail (l : Launch) (D : va_G) (cs : Nat → ClassId) (ad : Nat → Nat) {M : px_M} {p1 : Int32} {M' : px_M} (hf : fC_fail M p1 = some M') : px_mV l D (tyC cs) (wC cs ad) yX5_fail cX5_fail 2 0 [.ref (ad 0), .int p1] M M' := by
  refine px_ofV (by decide +kernel) (Nat.le_of_ble_eq_true rfl) ?_
  intro p e s m below meth c A ls X hr hlk hml w hl
  have hl : lv_has ls 2 [(0, .ref (ad 0)), (1, .int p1)] := hl
  unfold fC_fail at hf
  refine lv_aload_n X.1 X.2.1 dX5_fail_0 rfl (lv_at hl 0 rfl) ?_
  refine lv_iconst (v := (1 : Int32)) X.1 X.2.1 dX5_fail_1 (by decide) ?_
  refine ptC_0_15 X w rfl dX5_fail_2 (fun H locs w => ?_)
  obtain ⟨M1, eM1, hf⟩ := px_bn_e hf
  rw [← eM1] at w
  refine lv_aload_n X.1 X.2.1 dX5_fail_5 rfl (lv_at hl 0 rfl) ?_
  refine lv_iload_n X.1 X.2.1 dX5_fail_6 rfl (lv_at hl 1 rfl) ?_
  refine ptC_0_17 X w dX5_fail_7 (fun H locs w => ?_)
  obtain ⟨M2, eM2, hf⟩ := px_bn_e hf
  rw [← eM2] at w
  cases hf
  exact px_retV X hr hlk w dX5_fail_10
def fC_endWith (M : px_M) (p1 p2 : Int32) : Option px_M := px_cb p2 (px_bn (px_up M 0 16 p2) (fun M2 => px_bn (px_up M2 0 17 p1) (fun M3 => some M3)))
set_option maxHeartbeats 4000000 in
set_option maxRecDepth 100000 in
theorem cC_endWith (l : Launch) (D : va_G) (cs : Nat → ClassId) (ad : Nat → Nat) {M : px_M} {p1 p2 : Int32} {M' : px_M} (hf : fC_endWith M p1 p2 = some M') : px_mV l D (tyC cs) (wC cs ad) yX5_endWith cX5_endWith 3 0 [.ref (ad 0), .int p1, .int p2] M M' := by
  refine px_ofV (by decide +kernel) (Nat.le_of_ble_eq_true rfl) ?_
  intro p e s m below meth c A ls X hr hlk hml w hl
  have hl : lv_has ls 3 [(0, .ref (ad 0)), (1, .int p1), (2, .int p2)] := hl
  unfold fC_endWith at hf
  refine lv_aload_n X.1 X.2.1 dX5_endWith_0 rfl (lv_at hl 0 rfl) ?_
  refine lv_iload_n X.1 X.2.1 dX5_endWith_1 rfl (lv_at hl 2 rfl) ?_
  obtain ⟨b1, hf⟩ := px_cb_e hf
  refine ptC_0_16 X w b1 dX5_endWith_2 (fun H locs w => ?_)
  obtain ⟨M2, eM2, hf⟩ := px_bn_e hf
  rw [← eM2] at w
  refine lv_aload_n X.1 X.2.1 dX5_endWith_5 rfl (lv_at hl 0 rfl) ?_
  refine lv_iload_n X.1 X.2.1 dX5_endWith_6 rfl (lv_at hl 1 rfl) ?_
  refine ptC_0_17 X w dX5_endWith_7 (fun H locs w => ?_)
  obtain ⟨M3, eM3, hf⟩ := px_bn_e hf
  rw [← eM3] at w
  cases hf
  exact px_retV X hr hlk w dX5_endWith_10
def fC_countRun (M : px_M) (p1 : Int32) : Option px_M := (if p1 = (1 : Int32) then px_bn (px_up M 0 12 ((M 0 12) + (1 : Int32))) (fun M3 => px_bn (px_up M3 0 13 (0 : Int32)) (fun M4 => some M4)) else px_bn (px_up M 0 13 ((M 0 13) + (1 : Int32))) (fun M2 => some M2))
set_option maxHeartbeats 4000000 in
set_option maxRecDepth 100000 in
theorem cC_countRun (l : Launch) (D : va_G) (cs : Nat → ClassId) (ad : Nat → Nat) {M : px_M} {p1 : Int32} {M' : px_M} (hf : fC_countRun M p1 = some M') : px_mV l D (tyC cs) (wC cs ad) yX5_countRun cX5_countRun 2 0 [.ref (ad 0), .int p1] M M' := by
  refine px_ofV (by decide +kernel) (Nat.le_of_ble_eq_true rfl) ?_
  intro p e s m below meth c A ls X hr hlk hml w hl
  have hl : lv_has ls 2 [(0, .ref (ad 0)), (1, .int p1)] := hl
  unfold fC_countRun at hf
  refine lv_iload_n X.1 X.2.1 dX5_countRun_0 rfl (lv_at hl 1 rfl) ?_
  refine lv_iconst (v := (1 : Int32)) X.1 X.2.1 dX5_countRun_1 (by decide) ?_
  refine lv_icmp_ne (tgt := 23) X.1 X.2.1 dX5_countRun_2 (by decide) (fun c1 => ?_) (fun c1 => ?_)
  · have hf := px_in c1 hf
    refine lv_aload_n X.1 X.2.1 dX5_countRun_23 rfl (lv_at hl 0 rfl) ?_
    refine lv_dup X.1 X.2.1 dX5_countRun_24 rfl ?_
    refine gtC_0_13 X w dX5_countRun_25 ?_
    refine lv_iconst (v := (1 : Int32)) X.1 X.2.1 dX5_countRun_28 (by decide) ?_
    refine lv_iadd X.1 X.2.1 dX5_countRun_29 ?_
    refine ptC_0_13 X w dX5_countRun_30 (fun H locs w => ?_)
    obtain ⟨M2, eM2, hf⟩ := px_bn_e hf
    rw [← eM2] at w
    cases hf
    exact px_retV X hr hlk w dX5_countRun_33
  · have hf := px_ip c1 hf
    refine lv_aload_n X.1 X.2.1 dX5_countRun_5 rfl (lv_at hl 0 rfl) ?_
    refine lv_dup X.1 X.2.1 dX5_countRun_6 rfl ?_
    refine gtC_0_12 X w dX5_countRun_7 ?_
    refine lv_iconst (v := (1 : Int32)) X.1 X.2.1 dX5_countRun_10 (by decide) ?_
    refine lv_iadd X.1 X.2.1 dX5_countRun_11 ?_
    refine ptC_0_12 X w dX5_countRun_12 (fun H locs w => ?_)
    obtain ⟨M3, eM3, hf⟩ := px_bn_e hf
    rw [← eM3] at w
    refine lv_aload_n X.1 X.2.1 dX5_countRun_15 rfl (lv_at hl 0 rfl) ?_
    refine lv_iconst (v := (0 : Int32)) X.1 X.2.1 dX5_countRun_16 (by decide) ?_
    refine ptC_0_13 X w dX5_countRun_17 (fun H locs w => ?_)
    obtain ⟨M4, eM4, hf⟩ := px_bn_e hf
    rw [← eM4] at w
    refine lv_goto (tgt := 33) X.1 X.2.1 dX5_countRun_20 (by decide) ?_
    cases hf
    exact px_retV X hr hlk w dX5_countRun_33
theorem lk_5_129 : px_Lk RX5 129 yX5_waitingTasks cX5_waitingTasks 3 (some .int) 0 := ⟨px_tb (by decide +kernel) (by decide +kernel), px_tb (by decide +kernel) (by decide +kernel), px_tb (by decide +kernel) (by decide +kernel), px_tb (by decide +kernel) (by decide +kernel), px_tb (by decide +kernel) (by decide +kernel), by decide +kernel, by decide⟩
theorem lk_5_135 : px_Lk RX5 135 yX2_put cX2_put 5 none 3 := ⟨px_tb (by decide +kernel) (by decide +kernel), px_tb (by decide +kernel) (by decide +kernel), px_tb (by decide +kernel) (by decide +kernel), px_tb (by decide +kernel) (by decide +kernel), px_tb (by decide +kernel) (by decide +kernel), by decide +kernel, by decide⟩
theorem lk_5_323 : px_Lk RX5 323 yX5_fail cX5_fail 2 none 1 := ⟨px_tb (by decide +kernel) (by decide +kernel), px_tb (by decide +kernel) (by decide +kernel), px_tb (by decide +kernel) (by decide +kernel), px_tb (by decide +kernel) (by decide +kernel), px_tb (by decide +kernel) (by decide +kernel), by decide +kernel, by decide⟩
def fC_postStep (M : px_M) (p1 p2 p3 : Int32) : Option px_M := px_bq (fC_waitingTasks M) (fun r2 => (if r2 < (40 : Int32) then (if p1 = 0 then px_bq (fC_Line_put_8 M (0 : Int32) p2 p3) (fun M6 => some M6) else (if p1 = 1 then px_bq (fC_Line_put_12 M (0 : Int32) p2 p3) (fun M9 => some M9) else (if p1 = 2 then px_bq (fC_Line_put_16 M (0 : Int32) p2 p3) (fun M12 => some M12) else none))) else px_bq (fC_fail M (-2 : Int32)) (fun M14 => some M14)))
set_option maxHeartbeats 4000000 in
set_option maxRecDepth 100000 in
theorem cC_postStep (l : Launch) (D : va_G) (cs : Nat → ClassId) (ad : Nat → Nat) {M : px_M} {p1 p2 p3 : Int32} {M' : px_M} (hf : fC_postStep M p1 p2 p3 = some M') : px_mV l D (tyC cs) (wC cs ad) yX5_postStep cX5_postStep 4 2 [.ref (ad 0), .int p1, .int p2, .int p3] M M' := by
  refine px_ofV (by decide +kernel) (Nat.le_of_ble_eq_true rfl) ?_
  intro p e s m below meth c A ls X hr hlk hml w hl
  have hl : lv_has ls 4 [(0, .ref (ad 0)), (1, .int p1), (2, .int p2), (3, .int p3)] := hl
  unfold fC_postStep at hf
  refine lv_aload_n X.1 X.2.1 dX5_postStep_0 rfl (lv_at hl 0 rfl) ?_
  obtain ⟨r2, e1, hf⟩ := px_bq_e hf
  refine px_cI (As := []) (rest := []) X hml hl w (cC_waitingTasks l D cs ad e1) lk_5_129 (by decide) (rcC_0 X.2.2.2.2 w) rfl (Nat.le_of_ble_eq_true rfl) dX5_postStep_1 (fun H locs w => ?_)
  refine lv_bipush (v := (40 : Int32)) X.1 X.2.1 dX5_postStep_4 (by decide) ?_
  refine lv_icmp_lt (tgt := 18) X.1 X.2.1 dX5_postStep_6 (by decide) (fun c3 => ?_) (fun c3 => ?_)
  · have hf := px_ip c3 hf
    refine lv_aload_n X.1 X.2.1 dX5_postStep_18 rfl (lv_at hl 0 rfl) ?_
    refine gtC_0_2 X w dX5_postStep_19 ?_
    refine lv_iload_n X.1 X.2.1 dX5_postStep_22 rfl (lv_at hl 1 rfl) ?_
    by_cases c4 : p1 = 0
    · have hf := px_ip c4 hf
      refine alC_7_0 X w c4 dX5_postStep_23 ?_
      refine lv_iconst (v := (0 : Int32)) X.1 X.2.1 dX5_postStep_24 (by decide) ?_
      refine lv_iload_n X.1 X.2.1 dX5_postStep_25 rfl (lv_at hl 2 rfl) ?_
      refine lv_iload_n X.1 X.2.1 dX5_postStep_26 rfl (lv_at hl 3 rfl) ?_
      obtain ⟨M6, e5, hf⟩ := px_bq_e hf
      refine px_cV (As := [.int (0 : Int32), .int p2, .int p3]) (rest := []) X hml hl w (cC_Line_put_8 l D cs ad e5) lk_5_135 (by decide) (rcC_8 X.2.2.2.2 w) rfl (Nat.le_of_ble_eq_true rfl) dX5_postStep_27 (fun H locs w => ?_)
      cases hf
      exact px_retV X hr hlk w dX5_postStep_30
    · have hf := px_in c4 hf
      by_cases c7 : p1 = 1
      · have hf := px_ip c7 hf
        refine alC_7_1 X w c7 dX5_postStep_23 ?_
        refine lv_iconst (v := (0 : Int32)) X.1 X.2.1 dX5_postStep_24 (by decide) ?_
        refine lv_iload_n X.1 X.2.1 dX5_postStep_25 rfl (lv_at hl 2 rfl) ?_
        refine lv_iload_n X.1 X.2.1 dX5_postStep_26 rfl (lv_at hl 3 rfl) ?_
        obtain ⟨M9, e8, hf⟩ := px_bq_e hf
        refine px_cV (As := [.int (0 : Int32), .int p2, .int p3]) (rest := []) X hml hl w (cC_Line_put_12 l D cs ad e8) lk_5_135 (by decide) (rcC_12 X.2.2.2.2 w) rfl (Nat.le_of_ble_eq_true rfl) dX5_postStep_27 (fun H locs w => ?_)
        cases hf
        exact px_retV X hr hlk w dX5_postStep_30
      · have hf := px_in c7 hf
        by_cases c10 : p1 = 2
        · have hf := px_ip c10 hf
          refine alC_7_2 X w c10 dX5_postStep_23 ?_
          refine lv_iconst (v := (0 : Int32)) X.1 X.2.1 dX5_postStep_24 (by decide) ?_
          refine lv_iload_n X.1 X.2.1 dX5_postStep_25 rfl (lv_at hl 2 rfl) ?_
          refine lv_iload_n X.1 X.2.1 dX5_postStep_26 rfl (lv_at hl 3 rfl) ?_
          obtain ⟨M12, e11, hf⟩ := px_bq_e hf
          refine px_cV (As := [.int (0 : Int32), .int p2, .int p3]) (rest := []) X hml hl w (cC_Line_put_16 l D cs ad e11) lk_5_135 (by decide) (rcC_16 X.2.2.2.2 w) rfl (Nat.le_of_ble_eq_true rfl) dX5_postStep_27 (fun H locs w => ?_)
          cases hf
          exact px_retV X hr hlk w dX5_postStep_30
        · have hf := px_in c10 hf
          cases hf
  · have hf := px_in c3 hf
    refine lv_aload_n X.1 X.2.1 dX5_postStep_9 rfl (lv_at hl 0 rfl) ?_
    refine lv_bipush (v := (-2 : Int32)) X.1 X.2.1 dX5_postStep_10 (by decide) ?_
    obtain ⟨M14, e13, hf⟩ := px_bq_e hf
    refine px_cV (As := [.int (-2 : Int32)]) (rest := []) X hml hl w (cC_fail l D cs ad e13) lk_5_323 (by decide) (rcC_0 X.2.2.2.2 w) rfl (Nat.le_of_ble_eq_true rfl) dX5_postStep_12 (fun H locs w => ?_)
    refine lv_goto (tgt := 30) X.1 X.2.1 dX5_postStep_15 (by decide) ?_
    cases hf
    exact px_retV X hr hlk w dX5_postStep_30
def fC_microStep (M : px_M) (p1 p2 : Int32) : Option px_M := px_bq (fC_Line_size_20 M) (fun r2 => (if r2 < (60 : Int32) then px_bq (fC_Line_put_20 M (0 : Int32) p1 p2) (fun M5 => some M5) else px_bq (fC_fail M (-2 : Int32)) (fun M7 => some M7)))
set_option maxHeartbeats 4000000 in
set_option maxRecDepth 100000 in
theorem cC_microStep (l : Launch) (D : va_G) (cs : Nat → ClassId) (ad : Nat → Nat) {M : px_M} {p1 p2 : Int32} {M' : px_M} (hf : fC_microStep M p1 p2 = some M') : px_mV l D (tyC cs) (wC cs ad) yX5_microStep cX5_microStep 3 1 [.ref (ad 0), .int p1, .int p2] M M' := by
  refine px_ofV (by decide +kernel) (Nat.le_of_ble_eq_true rfl) ?_
  intro p e s m below meth c A ls X hr hlk hml w hl
  have hl : lv_has ls 3 [(0, .ref (ad 0)), (1, .int p1), (2, .int p2)] := hl
  unfold fC_microStep at hf
  refine lv_aload_n X.1 X.2.1 dX5_microStep_0 rfl (lv_at hl 0 rfl) ?_
  refine gtC_0_3 X w dX5_microStep_1 ?_
  obtain ⟨r2, e1, hf⟩ := px_bq_e hf
  refine px_cI (As := []) (rest := []) X hml hl w (cC_Line_size_20 l D cs ad e1) lk_5_148 (by decide) (rcC_20 X.2.2.2.2 w) rfl (Nat.le_of_ble_eq_true rfl) dX5_microStep_4 (fun H locs w => ?_)
  refine lv_bipush (v := (60 : Int32)) X.1 X.2.1 dX5_microStep_7 (by decide) ?_
  refine lv_icmp_lt (tgt := 21) X.1 X.2.1 dX5_microStep_9 (by decide) (fun c3 => ?_) (fun c3 => ?_)
  · have hf := px_ip c3 hf
    refine lv_aload_n X.1 X.2.1 dX5_microStep_21 rfl (lv_at hl 0 rfl) ?_
    refine gtC_0_3 X w dX5_microStep_22 ?_
    refine lv_iconst (v := (0 : Int32)) X.1 X.2.1 dX5_microStep_25 (by decide) ?_
    refine lv_iload_n X.1 X.2.1 dX5_microStep_26 rfl (lv_at hl 1 rfl) ?_
    refine lv_iload_n X.1 X.2.1 dX5_microStep_27 rfl (lv_at hl 2 rfl) ?_
    obtain ⟨M5, e4, hf⟩ := px_bq_e hf
    refine px_cV (As := [.int (0 : Int32), .int p1, .int p2]) (rest := []) X hml hl w (cC_Line_put_20 l D cs ad e4) lk_5_135 (by decide) (rcC_20 X.2.2.2.2 w) rfl (Nat.le_of_ble_eq_true rfl) dX5_microStep_28 (fun H locs w => ?_)
    cases hf
    exact px_retV X hr hlk w dX5_microStep_31
  · have hf := px_in c3 hf
    refine lv_aload_n X.1 X.2.1 dX5_microStep_12 rfl (lv_at hl 0 rfl) ?_
    refine lv_bipush (v := (-2 : Int32)) X.1 X.2.1 dX5_microStep_13 (by decide) ?_
    obtain ⟨M7, e6, hf⟩ := px_bq_e hf
    refine px_cV (As := [.int (-2 : Int32)]) (rest := []) X hml hl w (cC_fail l D cs ad e6) lk_5_323 (by decide) (rcC_0 X.2.2.2.2 w) rfl (Nat.le_of_ble_eq_true rfl) dX5_microStep_15 (fun H locs w => ?_)
    refine lv_goto (tgt := 31) X.1 X.2.1 dX5_microStep_18 (by decide) ?_
    cases hf
    exact px_retV X hr hlk w dX5_microStep_31
theorem lk_5_344 : px_Lk RX5 344 yX4_isFull cX4_isFull 1 (some .boolean) 0 := ⟨px_tb (by decide +kernel) (by decide +kernel), px_tb (by decide +kernel) (by decide +kernel), px_tb (by decide +kernel) (by decide +kernel), px_tb (by decide +kernel) (by decide +kernel), px_tb (by decide +kernel) (by decide +kernel), by decide +kernel, by decide⟩
theorem lk_5_347 : px_Lk RX5 347 yX4_make cX4_make 8 none 6 := ⟨px_tb (by decide +kernel) (by decide +kernel), px_tb (by decide +kernel) (by decide +kernel), px_tb (by decide +kernel) (by decide +kernel), px_tb (by decide +kernel) (by decide +kernel), px_tb (by decide +kernel) (by decide +kernel), by decide +kernel, by decide⟩
def fC_timerStep (M : px_M) (p1 p2 p3 p4 : Int32) : Option px_M := px_bq (fC_Timers_isFull M) (fun r2 => (if r2 = 0 then px_bq (fC_Timers_make M p1 p2 p3 p4 ((M 0 14) + (1 : Int32)) (M 0 10)) (fun M5 => some M5) else px_bq (fC_fail M (-2 : Int32)) (fun M7 => some M7)))
set_option maxHeartbeats 4000000 in
set_option maxRecDepth 100000 in
theorem cC_timerStep (l : Launch) (D : va_G) (cs : Nat → ClassId) (ad : Nat → Nat) {M : px_M} {p1 p2 p3 p4 : Int32} {M' : px_M} (hf : fC_timerStep M p1 p2 p3 p4 = some M') : px_mV l D (tyC cs) (wC cs ad) yX5_timerStep cX5_timerStep 5 2 [.ref (ad 0), .int p1, .int p2, .int p3, .int p4] M M' := by
  refine px_ofV (by decide +kernel) (Nat.le_of_ble_eq_true rfl) ?_
  intro p e s m below meth c A ls X hr hlk hml w hl
  have hl : lv_has ls 5 [(0, .ref (ad 0)), (1, .int p1), (2, .int p2), (3, .int p3), (4, .int p4)] := hl
  unfold fC_timerStep at hf
  refine lv_aload_n X.1 X.2.1 dX5_timerStep_0 rfl (lv_at hl 0 rfl) ?_
  refine gtC_0_8 X w dX5_timerStep_1 ?_
  obtain ⟨r2, e1, hf⟩ := px_bq_e hf
  refine px_cI (As := []) (rest := []) X hml hl w (cC_Timers_isFull l D cs ad e1) lk_5_344 (by decide) (rcC_43 X.2.2.2.2 w) rfl (Nat.le_of_ble_eq_true rfl) dX5_timerStep_4 (fun H locs w => ?_)
  refine lv_if_eq (tgt := 19) X.1 X.2.1 dX5_timerStep_7 (by decide) (fun c3 => ?_) (fun c3 => ?_)
  · have hf := px_ip c3 hf
    refine lv_aload_n X.1 X.2.1 dX5_timerStep_19 rfl (lv_at hl 0 rfl) ?_
    refine gtC_0_8 X w dX5_timerStep_20 ?_
    refine lv_iload_n X.1 X.2.1 dX5_timerStep_23 rfl (lv_at hl 1 rfl) ?_
    refine lv_iload_n X.1 X.2.1 dX5_timerStep_24 rfl (lv_at hl 2 rfl) ?_
    refine lv_iload_n X.1 X.2.1 dX5_timerStep_25 rfl (lv_at hl 3 rfl) ?_
    refine lv_iload X.1 X.2.1 dX5_timerStep_26 (lv_at hl 4 rfl) ?_
    refine lv_aload_n X.1 X.2.1 dX5_timerStep_28 rfl (lv_at hl 0 rfl) ?_
    refine gtC_0_14 X w dX5_timerStep_29 ?_
    refine lv_iconst (v := (1 : Int32)) X.1 X.2.1 dX5_timerStep_32 (by decide) ?_
    refine lv_iadd X.1 X.2.1 dX5_timerStep_33 ?_
    refine lv_aload_n X.1 X.2.1 dX5_timerStep_34 rfl (lv_at hl 0 rfl) ?_
    refine gtC_0_10 X w dX5_timerStep_35 ?_
    obtain ⟨M5, e4, hf⟩ := px_bq_e hf
    refine px_cV (As := [.int p1, .int p2, .int p3, .int p4, .int ((M 0 14) + (1 : Int32)), .int (M 0 10)]) (rest := []) X hml hl w (cC_Timers_make l D cs ad e4) lk_5_347 (by decide) (rcC_43 X.2.2.2.2 w) rfl (Nat.le_of_ble_eq_true rfl) dX5_timerStep_38 (fun H locs w => ?_)
    cases hf
    exact px_retV X hr hlk w dX5_timerStep_41
  · have hf := px_in c3 hf
    refine lv_aload_n X.1 X.2.1 dX5_timerStep_10 rfl (lv_at hl 0 rfl) ?_
    refine lv_bipush (v := (-2 : Int32)) X.1 X.2.1 dX5_timerStep_11 (by decide) ?_
    obtain ⟨M7, e6, hf⟩ := px_bq_e hf
    refine px_cV (As := [.int (-2 : Int32)]) (rest := []) X hml hl w (cC_fail l D cs ad e6) lk_5_323 (by decide) (rcC_0 X.2.2.2.2 w) rfl (Nat.le_of_ble_eq_true rfl) dX5_timerStep_13 (fun H locs w => ?_)
    refine lv_goto (tgt := 41) X.1 X.2.1 dX5_timerStep_16 (by decide) ?_
    cases hf
    exact px_retV X hr hlk w dX5_timerStep_41
def fC_frameStep (M : px_M) (p1 : Int32) : Option px_M := px_bq (fC_Line_size_24 M) (fun r2 => (if r2 < (8 : Int32) then px_bq (fC_Line_put_24 M (0 : Int32) p1 (0 : Int32)) (fun M5 => some M5) else px_bq (fC_fail M (-2 : Int32)) (fun M7 => some M7)))
set_option maxHeartbeats 4000000 in
set_option maxRecDepth 100000 in
theorem cC_frameStep (l : Launch) (D : va_G) (cs : Nat → ClassId) (ad : Nat → Nat) {M : px_M} {p1 : Int32} {M' : px_M} (hf : fC_frameStep M p1 = some M') : px_mV l D (tyC cs) (wC cs ad) yX5_frameStep cX5_frameStep 2 1 [.ref (ad 0), .int p1] M M' := by
  refine px_ofV (by decide +kernel) (Nat.le_of_ble_eq_true rfl) ?_
  intro p e s m below meth c A ls X hr hlk hml w hl
  have hl : lv_has ls 2 [(0, .ref (ad 0)), (1, .int p1)] := hl
  unfold fC_frameStep at hf
  refine lv_aload_n X.1 X.2.1 dX5_frameStep_0 rfl (lv_at hl 0 rfl) ?_
  refine gtC_0_4 X w dX5_frameStep_1 ?_
  obtain ⟨r2, e1, hf⟩ := px_bq_e hf
  refine px_cI (As := []) (rest := []) X hml hl w (cC_Line_size_24 l D cs ad e1) lk_5_148 (by decide) (rcC_24 X.2.2.2.2 w) rfl (Nat.le_of_ble_eq_true rfl) dX5_frameStep_4 (fun H locs w => ?_)
  refine lv_bipush (v := (8 : Int32)) X.1 X.2.1 dX5_frameStep_7 (by decide) ?_
  refine lv_icmp_lt (tgt := 21) X.1 X.2.1 dX5_frameStep_9 (by decide) (fun c3 => ?_) (fun c3 => ?_)
  · have hf := px_ip c3 hf
    refine lv_aload_n X.1 X.2.1 dX5_frameStep_21 rfl (lv_at hl 0 rfl) ?_
    refine gtC_0_4 X w dX5_frameStep_22 ?_
    refine lv_iconst (v := (0 : Int32)) X.1 X.2.1 dX5_frameStep_25 (by decide) ?_
    refine lv_iload_n X.1 X.2.1 dX5_frameStep_26 rfl (lv_at hl 1 rfl) ?_
    refine lv_iconst (v := (0 : Int32)) X.1 X.2.1 dX5_frameStep_27 (by decide) ?_
    obtain ⟨M5, e4, hf⟩ := px_bq_e hf
    refine px_cV (As := [.int (0 : Int32), .int p1, .int (0 : Int32)]) (rest := []) X hml hl w (cC_Line_put_24 l D cs ad e4) lk_5_135 (by decide) (rcC_24 X.2.2.2.2 w) rfl (Nat.le_of_ble_eq_true rfl) dX5_frameStep_28 (fun H locs w => ?_)
    cases hf
    exact px_retV X hr hlk w dX5_frameStep_31
  · have hf := px_in c3 hf
    refine lv_aload_n X.1 X.2.1 dX5_frameStep_12 rfl (lv_at hl 0 rfl) ?_
    refine lv_bipush (v := (-2 : Int32)) X.1 X.2.1 dX5_frameStep_13 (by decide) ?_
    obtain ⟨M7, e6, hf⟩ := px_bq_e hf
    refine px_cV (As := [.int (-2 : Int32)]) (rest := []) X hml hl w (cC_fail l D cs ad e6) lk_5_323 (by decide) (rcC_0 X.2.2.2.2 w) rfl (Nat.le_of_ble_eq_true rfl) dX5_frameStep_15 (fun H locs w => ?_)
    refine lv_goto (tgt := 31) X.1 X.2.1 dX5_frameStep_18 (by decide) ?_
    cases hf
    exact px_retV X hr hlk w dX5_frameStep_31
def fC_mayCall (M : px_M) (p1 : Int32) : Option Int32 := (if (6 : Int32) ≤ p1 then some (0 : Int32) else (if (30 : Int32) ≤ (M 0 13) then some (0 : Int32) else some (1 : Int32)))
set_option maxHeartbeats 4000000 in
set_option maxRecDepth 100000 in
theorem cC_mayCall (l : Launch) (D : va_G) (cs : Nat → ClassId) (ad : Nat → Nat) {M : px_M} {p1 : Int32} {r : Int32} (hf : fC_mayCall M p1 = some r) : px_mI l D (tyC cs) (wC cs ad) yX5_mayCall cX5_mayCall 2 (some .boolean) 0 [.ref (ad 0), .int p1] M r M := by
  refine px_ofI (by decide +kernel) (Nat.le_of_ble_eq_true rfl) ?_
  intro p e s m below meth c A ls X hr hlk hml w hl
  have hl : lv_has ls 2 [(0, .ref (ad 0)), (1, .int p1)] := hl
  unfold fC_mayCall at hf
  refine lv_iload_n X.1 X.2.1 dX5_mayCall_0 rfl (lv_at hl 1 rfl) ?_
  refine lv_bipush (v := (6 : Int32)) X.1 X.2.1 dX5_mayCall_1 (by decide) ?_
  refine lv_icmp_ge (tgt := 19) X.1 X.2.1 dX5_mayCall_3 (by decide) (fun c1 => ?_) (fun c1 => ?_)
  · have hf := px_ip c1 hf
    refine lv_iconst (v := (0 : Int32)) X.1 X.2.1 dX5_mayCall_19 (by decide) ?_
    cases hf
    exact px_retZ X hr hlk narrow_b0 w dX5_mayCall_20
  · have hf := px_in c1 hf
    refine lv_aload_n X.1 X.2.1 dX5_mayCall_6 rfl (lv_at hl 0 rfl) ?_
    refine gtC_0_13 X w dX5_mayCall_7 ?_
    refine lv_bipush (v := (30 : Int32)) X.1 X.2.1 dX5_mayCall_10 (by decide) ?_
    refine lv_icmp_ge (tgt := 19) X.1 X.2.1 dX5_mayCall_12 (by decide) (fun c2 => ?_) (fun c2 => ?_)
    · have hf := px_ip c2 hf
      refine lv_iconst (v := (0 : Int32)) X.1 X.2.1 dX5_mayCall_19 (by decide) ?_
      cases hf
      exact px_retZ X hr hlk narrow_b0 w dX5_mayCall_20
    · have hf := px_in c2 hf
      refine lv_iconst (v := (1 : Int32)) X.1 X.2.1 dX5_mayCall_15 (by decide) ?_
      refine lv_goto (tgt := 20) X.1 X.2.1 dX5_mayCall_16 (by decide) ?_
      cases hf
      exact px_retZ X hr hlk narrow_b1 w dX5_mayCall_20
theorem lk_5_295 : px_Lk RX5 295 yX5_endWith cX5_endWith 3 none 2 := ⟨px_tb (by decide +kernel) (by decide +kernel), px_tb (by decide +kernel) (by decide +kernel), px_tb (by decide +kernel) (by decide +kernel), px_tb (by decide +kernel) (by decide +kernel), px_tb (by decide +kernel) (by decide +kernel), by decide +kernel, by decide⟩
def fC_answerStep (M : px_M) (p1 p2 p3 : Int32) : Option px_M := (if p2 = (2 : Int32) then px_ck p1 8 ((if (M 6 p1.toNatClampNeg) = (-1 : Int32) then px_bq (fC_endWith M (0 : Int32) (0 : Int32)) (fun M10 => some M10) else px_ck p1 8 (px_bq (fC_endWith M (M 6 p1.toNatClampNeg) (1 : Int32)) (fun M13 => some M13)))) else (if p2 = (1 : Int32) then px_bq (fC_endWith M p3 (0 : Int32)) (fun M6 => some M6) else px_bq (fC_endWith M p1 (0 : Int32)) (fun M4 => some M4)))
set_option maxHeartbeats 4000000 in
set_option maxRecDepth 100000 in
theorem cC_answerStep (l : Launch) (D : va_G) (cs : Nat → ClassId) (ad : Nat → Nat) {M : px_M} {p1 p2 p3 : Int32} {M' : px_M} (hf : fC_answerStep M p1 p2 p3 = some M') : px_mV l D (tyC cs) (wC cs ad) yX5_answerStep cX5_answerStep 5 1 [.ref (ad 0), .int p1, .int p2, .int p3] M M' := by
  refine px_ofV (by decide +kernel) (Nat.le_of_ble_eq_true rfl) ?_
  intro p e s m below meth c A ls X hr hlk hml w hl
  have hl : lv_has ls 5 [(0, .ref (ad 0)), (1, .int p1), (2, .int p2), (3, .int p3)] := hl
  unfold fC_answerStep at hf
  refine lv_iload_n X.1 X.2.1 dX5_answerStep_0 rfl (lv_at hl 2 rfl) ?_
  refine lv_iconst (v := (2 : Int32)) X.1 X.2.1 dX5_answerStep_1 (by decide) ?_
  refine lv_icmp_ne (tgt := 46) X.1 X.2.1 dX5_answerStep_2 (by decide) (fun c1 => ?_) (fun c1 => ?_)
  · have hf := px_in c1 hf
    refine lv_aload_n X.1 X.2.1 dX5_answerStep_46 rfl (lv_at hl 0 rfl) ?_
    refine lv_iload_n X.1 X.2.1 dX5_answerStep_47 rfl (lv_at hl 2 rfl) ?_
    refine lv_iconst (v := (1 : Int32)) X.1 X.2.1 dX5_answerStep_48 (by decide) ?_
    refine lv_icmp_ne (tgt := 56) X.1 X.2.1 dX5_answerStep_49 (by decide) (fun c2 => ?_) (fun c2 => ?_)
    · have hf := px_in c2 hf
      refine lv_iload_n X.1 X.2.1 dX5_answerStep_56 rfl (lv_at hl 1 rfl) ?_
      refine lv_iconst (v := (0 : Int32)) X.1 X.2.1 dX5_answerStep_57 (by decide) ?_
      obtain ⟨M4, e3, hf⟩ := px_bq_e hf
      refine px_cV (As := [.int p1, .int (0 : Int32)]) (rest := []) X hml hl w (cC_endWith l D cs ad e3) lk_5_295 (by decide) (rcC_0 X.2.2.2.2 w) rfl (Nat.le_of_ble_eq_true rfl) dX5_answerStep_58 (fun H locs w => ?_)
      cases hf
      exact px_retV X hr hlk w dX5_answerStep_61
    · have hf := px_ip c2 hf
      refine lv_iload_n X.1 X.2.1 dX5_answerStep_52 rfl (lv_at hl 3 rfl) ?_
      refine lv_goto (tgt := 57) X.1 X.2.1 dX5_answerStep_53 (by decide) ?_
      refine lv_iconst (v := (0 : Int32)) X.1 X.2.1 dX5_answerStep_57 (by decide) ?_
      obtain ⟨M6, e5, hf⟩ := px_bq_e hf
      refine px_cV (As := [.int p3, .int (0 : Int32)]) (rest := []) X hml hl w (cC_endWith l D cs ad e5) lk_5_295 (by decide) (rcC_0 X.2.2.2.2 w) rfl (Nat.le_of_ble_eq_true rfl) dX5_answerStep_58 (fun H locs w => ?_)
      cases hf
      exact px_retV X hr hlk w dX5_answerStep_61
  · have hf := px_ip c1 hf
    refine lv_aload_n X.1 X.2.1 dX5_answerStep_5 rfl (lv_at hl 0 rfl) ?_
    refine gtC_0_1 X w dX5_answerStep_6 ?_
    refine lv_iload_n X.1 X.2.1 dX5_answerStep_9 rfl (lv_at hl 1 rfl) ?_
    obtain ⟨b7, hf⟩ := px_ck_e hf
    refine ilC_6 X w b7 dX5_answerStep_10 ?_
    refine lv_iconst (v := (-1 : Int32)) X.1 X.2.1 dX5_answerStep_11 (by decide) ?_
    refine lv_icmp_eq (tgt := 19) X.1 X.2.1 dX5_answerStep_12 (by decide) (fun c8 => ?_) (fun c8 => ?_)
    · have hf := px_ip c8 hf
      refine lv_iconst (v := (0 : Int32)) X.1 X.2.1 dX5_answerStep_19 (by decide) ?_
      refine lv_istore (lv' := [(4, .int (0 : Int32)), (0, .ref (ad 0)), (1, .int p1), (2, .int p2), (3, .int p3)]) X.1 X.2.1 dX5_answerStep_20 hl (by decide) rfl (fun ls hl => ?_)
      refine lv_aload_n X.1 X.2.1 dX5_answerStep_22 rfl (lv_at hl 1 rfl) ?_
      refine lv_iload X.1 X.2.1 dX5_answerStep_23 (lv_at hl 0 rfl) ?_
      refine lv_if_eq (tgt := 37) X.1 X.2.1 dX5_answerStep_25 (by decide) (fun _ => ?_) (fun c => absurd c (by decide))
      refine lv_iconst (v := (0 : Int32)) X.1 X.2.1 dX5_answerStep_37 (by decide) ?_
      refine lv_iload X.1 X.2.1 dX5_answerStep_38 (lv_at hl 0 rfl) ?_
      obtain ⟨M10, e9, hf⟩ := px_bq_e hf
      refine px_cV (As := [.int (0 : Int32), .int (0 : Int32)]) (rest := []) X hml hl w (cC_endWith l D cs ad e9) lk_5_295 (by decide) (rcC_0 X.2.2.2.2 w) rfl (Nat.le_of_ble_eq_true rfl) dX5_answerStep_40 (fun H locs w => ?_)
      refine lv_goto (tgt := 61) X.1 X.2.1 dX5_answerStep_43 (by decide) ?_
      cases hf
      exact px_retV X hr hlk w dX5_answerStep_61
    · have hf := px_in c8 hf
      refine lv_iconst (v := (1 : Int32)) X.1 X.2.1 dX5_answerStep_15 (by decide) ?_
      refine lv_goto (tgt := 20) X.1 X.2.1 dX5_answerStep_16 (by decide) ?_
      refine lv_istore (lv' := [(4, .int (1 : Int32)), (0, .ref (ad 0)), (1, .int p1), (2, .int p2), (3, .int p3)]) X.1 X.2.1 dX5_answerStep_20 hl (by decide) rfl (fun ls hl => ?_)
      refine lv_aload_n X.1 X.2.1 dX5_answerStep_22 rfl (lv_at hl 1 rfl) ?_
      refine lv_iload X.1 X.2.1 dX5_answerStep_23 (lv_at hl 0 rfl) ?_
      refine lv_if_eq (tgt := 37) X.1 X.2.1 dX5_answerStep_25 (by decide) (fun c => absurd c (by decide)) (fun _ => ?_)
      refine lv_aload_n X.1 X.2.1 dX5_answerStep_28 rfl (lv_at hl 1 rfl) ?_
      refine gtC_0_1 X w dX5_answerStep_29 ?_
      refine lv_iload_n X.1 X.2.1 dX5_answerStep_32 rfl (lv_at hl 2 rfl) ?_
      obtain ⟨b11, hf⟩ := px_ck_e hf
      refine ilC_6 X w b11 dX5_answerStep_33 ?_
      refine lv_goto (tgt := 38) X.1 X.2.1 dX5_answerStep_34 (by decide) ?_
      refine lv_iload X.1 X.2.1 dX5_answerStep_38 (lv_at hl 0 rfl) ?_
      obtain ⟨M13, e12, hf⟩ := px_bq_e hf
      refine px_cV (As := [.int (M 6 p1.toNatClampNeg), .int (1 : Int32)]) (rest := []) X hml hl w (cC_endWith l D cs ad e12) lk_5_295 (by decide) (rcC_0 X.2.2.2.2 w) rfl (Nat.le_of_ble_eq_true rfl) dX5_answerStep_40 (fun H locs w => ?_)
      refine lv_goto (tgt := 61) X.1 X.2.1 dX5_answerStep_43 (by decide) ?_
      cases hf
      exact px_retV X hr hlk w dX5_answerStep_61
theorem lk_5_354 : px_Lk RX5 354 yX3_isFull cX3_isFull 1 (some .boolean) 0 := ⟨px_tb (by decide +kernel) (by decide +kernel), px_tb (by decide +kernel) (by decide +kernel), px_tb (by decide +kernel) (by decide +kernel), px_tb (by decide +kernel) (by decide +kernel), px_tb (by decide +kernel) (by decide +kernel), by decide +kernel, by decide⟩
theorem lk_5_355 : px_Lk RX5 355 yX3_make cX3_make 1 (some .int) 0 := ⟨px_tb (by decide +kernel) (by decide +kernel), px_tb (by decide +kernel) (by decide +kernel), px_tb (by decide +kernel) (by decide +kernel), px_tb (by decide +kernel) (by decide +kernel), px_tb (by decide +kernel) (by decide +kernel), by decide +kernel, by decide⟩
def fC_makeStep (M : px_M) (p1 : Int32) : Option px_M := px_bq (fC_Promises_isFull M) (fun r2 => (if r2 = 0 then px_bo (fC_Promises_make M) (fun r5 M6 => px_ck p1 8 (px_bn (px_up M6 6 p1.toNatClampNeg r5) (fun M8 => some M8))) else px_bq (fC_fail M (-2 : Int32)) (fun M10 => some M10)))
set_option maxHeartbeats 4000000 in
set_option maxRecDepth 100000 in
theorem cC_makeStep (l : Launch) (D : va_G) (cs : Nat → ClassId) (ad : Nat → Nat) {M : px_M} {p1 : Int32} {M' : px_M} (hf : fC_makeStep M p1 = some M') : px_mV l D (tyC cs) (wC cs ad) yX5_makeStep cX5_makeStep 2 1 [.ref (ad 0), .int p1] M M' := by
  refine px_ofV (by decide +kernel) (Nat.le_of_ble_eq_true rfl) ?_
  intro p e s m below meth c A ls X hr hlk hml w hl
  have hl : lv_has ls 2 [(0, .ref (ad 0)), (1, .int p1)] := hl
  unfold fC_makeStep at hf
  refine lv_aload_n X.1 X.2.1 dX5_makeStep_0 rfl (lv_at hl 0 rfl) ?_
  refine gtC_0_7 X w dX5_makeStep_1 ?_
  obtain ⟨r2, e1, hf⟩ := px_bq_e hf
  refine px_cI (As := []) (rest := []) X hml hl w (cC_Promises_isFull l D cs ad e1) lk_5_354 (by decide) (rcC_32 X.2.2.2.2 w) rfl (Nat.le_of_ble_eq_true rfl) dX5_makeStep_4 (fun H locs w => ?_)
  refine lv_if_eq (tgt := 19) X.1 X.2.1 dX5_makeStep_7 (by decide) (fun c3 => ?_) (fun c3 => ?_)
  · have hf := px_ip c3 hf
    refine lv_aload_n X.1 X.2.1 dX5_makeStep_19 rfl (lv_at hl 0 rfl) ?_
    refine gtC_0_1 X w dX5_makeStep_20 ?_
    refine lv_iload_n X.1 X.2.1 dX5_makeStep_23 rfl (lv_at hl 1 rfl) ?_
    refine lv_aload_n X.1 X.2.1 dX5_makeStep_24 rfl (lv_at hl 0 rfl) ?_
    refine gtC_0_7 X w dX5_makeStep_25 ?_
    obtain ⟨r5, M6, e4, hf⟩ := px_bo_e hf
    refine px_cI (As := []) (rest := [.int p1, .ref (ad 6)]) X hml hl w (cC_Promises_make l D cs ad e4) lk_5_355 (by decide) (rcC_32 X.2.2.2.2 w) rfl (Nat.le_of_ble_eq_true rfl) dX5_makeStep_28 (fun H locs w => ?_)
    obtain ⟨b7, hf⟩ := px_ck_e hf
    refine isC_6 X w b7 dX5_makeStep_31 (fun H locs w => ?_)
    obtain ⟨M8, eM8, hf⟩ := px_bn_e hf
    rw [← eM8] at w
    cases hf
    exact px_retV X hr hlk w dX5_makeStep_32
  · have hf := px_in c3 hf
    refine lv_aload_n X.1 X.2.1 dX5_makeStep_10 rfl (lv_at hl 0 rfl) ?_
    refine lv_bipush (v := (-2 : Int32)) X.1 X.2.1 dX5_makeStep_11 (by decide) ?_
    obtain ⟨M10, e9, hf⟩ := px_bq_e hf
    refine px_cV (As := [.int (-2 : Int32)]) (rest := []) X hml hl w (cC_fail l D cs ad e9) lk_5_323 (by decide) (rcC_0 X.2.2.2.2 w) rfl (Nat.le_of_ble_eq_true rfl) dX5_makeStep_13 (fun H locs w => ?_)
    refine lv_goto (tgt := 32) X.1 X.2.1 dX5_makeStep_16 (by decide) ?_
    cases hf
    exact px_retV X hr hlk w dX5_makeStep_32
theorem lk_5_234 : px_Lk RX5 234 yX3_react cX3_react 5 none 4 := ⟨px_tb (by decide +kernel) (by decide +kernel), px_tb (by decide +kernel) (by decide +kernel), px_tb (by decide +kernel) (by decide +kernel), px_tb (by decide +kernel) (by decide +kernel), px_tb (by decide +kernel) (by decide +kernel), by decide +kernel, by decide⟩
def fC_thenStep (M : px_M) (p1 p2 p3 : Int32) : Option px_M := px_ck p1 8 ((if (M 6 p1.toNatClampNeg) = (-1 : Int32) then some M else px_bq (fC_Promises_isFull M) (fun r4 => (if r4 = 0 then px_bo (fC_Promises_make M) (fun r7 M8 => px_ck p1 8 (px_bq (fC_Promises_react M8 (M8 6 p1.toNatClampNeg) p2 p3 r7) (fun M11 => px_ck p1 8 (px_bn (px_up M11 6 p1.toNatClampNeg r7) (fun M13 => some M13))))) else px_bq (fC_fail M (-2 : Int32)) (fun M15 => some M15)))))
set_option maxHeartbeats 4000000 in
set_option maxRecDepth 100000 in
theorem cC_thenStep (l : Launch) (D : va_G) (cs : Nat → ClassId) (ad : Nat → Nat) {M : px_M} {p1 p2 p3 : Int32} {M' : px_M} (hf : fC_thenStep M p1 p2 p3 = some M') : px_mV l D (tyC cs) (wC cs ad) yX5_thenStep cX5_thenStep 5 2 [.ref (ad 0), .int p1, .int p2, .int p3] M M' := by
  refine px_ofV (by decide +kernel) (Nat.le_of_ble_eq_true rfl) ?_
  intro p e s m below meth c A ls X hr hlk hml w hl
  have hl : lv_has ls 5 [(0, .ref (ad 0)), (1, .int p1), (2, .int p2), (3, .int p3)] := hl
  unfold fC_thenStep at hf
  refine lv_aload_n X.1 X.2.1 dX5_thenStep_0 rfl (lv_at hl 0 rfl) ?_
  refine gtC_0_1 X w dX5_thenStep_1 ?_
  refine lv_iload_n X.1 X.2.1 dX5_thenStep_4 rfl (lv_at hl 1 rfl) ?_
  obtain ⟨b1, hf⟩ := px_ck_e hf
  refine ilC_6 X w b1 dX5_thenStep_5 ?_
  refine lv_iconst (v := (-1 : Int32)) X.1 X.2.1 dX5_thenStep_6 (by decide) ?_
  refine lv_icmp_ne (tgt := 11) X.1 X.2.1 dX5_thenStep_7 (by decide) (fun c2 => ?_) (fun c2 => ?_)
  · have hf := px_in c2 hf
    refine lv_aload_n X.1 X.2.1 dX5_thenStep_11 rfl (lv_at hl 0 rfl) ?_
    refine gtC_0_7 X w dX5_thenStep_12 ?_
    obtain ⟨r4, e3, hf⟩ := px_bq_e hf
    refine px_cI (As := []) (rest := []) X hml hl w (cC_Promises_isFull l D cs ad e3) lk_5_354 (by decide) (rcC_32 X.2.2.2.2 w) rfl (Nat.le_of_ble_eq_true rfl) dX5_thenStep_15 (fun H locs w => ?_)
    refine lv_if_eq (tgt := 28) X.1 X.2.1 dX5_thenStep_18 (by decide) (fun c5 => ?_) (fun c5 => ?_)
    · have hf := px_ip c5 hf
      refine lv_aload_n X.1 X.2.1 dX5_thenStep_28 rfl (lv_at hl 0 rfl) ?_
      refine gtC_0_7 X w dX5_thenStep_29 ?_
      obtain ⟨r7, M8, e6, hf⟩ := px_bo_e hf
      refine px_cI (As := []) (rest := []) X hml hl w (cC_Promises_make l D cs ad e6) lk_5_355 (by decide) (rcC_32 X.2.2.2.2 w) rfl (Nat.le_of_ble_eq_true rfl) dX5_thenStep_32 (fun H locs w => ?_)
      refine lv_istore (lv' := [(4, .int r7), (0, .ref (ad 0)), (1, .int p1), (2, .int p2), (3, .int p3)]) X.1 X.2.1 dX5_thenStep_35 hl (by decide) rfl (fun ls hl => ?_)
      refine lv_aload_n X.1 X.2.1 dX5_thenStep_37 rfl (lv_at hl 1 rfl) ?_
      refine gtC_0_7 X w dX5_thenStep_38 ?_
      refine lv_aload_n X.1 X.2.1 dX5_thenStep_41 rfl (lv_at hl 1 rfl) ?_
      refine gtC_0_1 X w dX5_thenStep_42 ?_
      refine lv_iload_n X.1 X.2.1 dX5_thenStep_45 rfl (lv_at hl 2 rfl) ?_
      obtain ⟨b9, hf⟩ := px_ck_e hf
      refine ilC_6 X w b9 dX5_thenStep_46 ?_
      refine lv_iload_n X.1 X.2.1 dX5_thenStep_47 rfl (lv_at hl 3 rfl) ?_
      refine lv_iload_n X.1 X.2.1 dX5_thenStep_48 rfl (lv_at hl 4 rfl) ?_
      refine lv_iload X.1 X.2.1 dX5_thenStep_49 (lv_at hl 0 rfl) ?_
      obtain ⟨M11, e10, hf⟩ := px_bq_e hf
      refine px_cV (As := [.int (M8 6 p1.toNatClampNeg), .int p2, .int p3, .int r7]) (rest := []) X hml hl w (cC_Promises_react l D cs ad e10) lk_5_234 (by decide) (rcC_32 X.2.2.2.2 w) rfl (Nat.le_of_ble_eq_true rfl) dX5_thenStep_51 (fun H locs w => ?_)
      refine lv_aload_n X.1 X.2.1 dX5_thenStep_54 rfl (lv_at hl 1 rfl) ?_
      refine gtC_0_1 X w dX5_thenStep_55 ?_
      refine lv_iload_n X.1 X.2.1 dX5_thenStep_58 rfl (lv_at hl 2 rfl) ?_
      refine lv_iload X.1 X.2.1 dX5_thenStep_59 (lv_at hl 0 rfl) ?_
      obtain ⟨b12, hf⟩ := px_ck_e hf
      refine isC_6 X w b12 dX5_thenStep_61 (fun H locs w => ?_)
      obtain ⟨M13, eM13, hf⟩ := px_bn_e hf
      rw [← eM13] at w
      cases hf
      exact px_retV X hr hlk w dX5_thenStep_62
    · have hf := px_in c5 hf
      refine lv_aload_n X.1 X.2.1 dX5_thenStep_21 rfl (lv_at hl 0 rfl) ?_
      refine lv_bipush (v := (-2 : Int32)) X.1 X.2.1 dX5_thenStep_22 (by decide) ?_
      obtain ⟨M15, e14, hf⟩ := px_bq_e hf
      refine px_cV (As := [.int (-2 : Int32)]) (rest := []) X hml hl w (cC_fail l D cs ad e14) lk_5_323 (by decide) (rcC_0 X.2.2.2.2 w) rfl (Nat.le_of_ble_eq_true rfl) dX5_thenStep_24 (fun H locs w => ?_)
      cases hf
      exact px_retV X hr hlk w dX5_thenStep_27
  · have hf := px_ip c2 hf
    cases hf
    exact px_retV X hr hlk w dX5_thenStep_10
end
section
theorem lk_5_292 : px_Lk RX5 292 yX5_countRun cX5_countRun 2 none 1 := ⟨px_tb (by decide +kernel) (by decide +kernel), px_tb (by decide +kernel) (by decide +kernel), px_tb (by decide +kernel) (by decide +kernel), px_tb (by decide +kernel) (by decide +kernel), px_tb (by decide +kernel) (by decide +kernel), by decide +kernel, by decide⟩
theorem lk_5_106 : px_Lk RX5 106 yX0_length cX0_length 2 (some .int) 1 := ⟨px_tb (by decide +kernel) (by decide +kernel), px_tb (by decide +kernel) (by decide +kernel), px_tb (by decide +kernel) (by decide +kernel), px_tb (by decide +kernel) (by decide +kernel), px_tb (by decide +kernel) (by decide +kernel), by decide +kernel, by decide⟩
theorem lk_5_299 : px_Lk RX5 299 yX0_code cX0_code 3 (some .int) 2 := ⟨px_tb (by decide +kernel) (by decide +kernel), px_tb (by decide +kernel) (by decide +kernel), px_tb (by decide +kernel) (by decide +kernel), px_tb (by decide +kernel) (by decide +kernel), px_tb (by decide +kernel) (by decide +kernel), by decide +kernel, by decide⟩
theorem lk_5_303 : px_Lk RX5 303 yX0_a cX0_a 3 (some .int) 2 := ⟨px_tb (by decide +kernel) (by decide +kernel), px_tb (by decide +kernel) (by decide +kernel), px_tb (by decide +kernel) (by decide +kernel), px_tb (by decide +kernel) (by decide +kernel), px_tb (by decide +kernel) (by decide +kernel), by decide +kernel, by decide⟩
theorem lk_5_306 : px_Lk RX5 306 yX0_b cX0_b 3 (some .int) 2 := ⟨px_tb (by decide +kernel) (by decide +kernel), px_tb (by decide +kernel) (by decide +kernel), px_tb (by decide +kernel) (by decide +kernel), px_tb (by decide +kernel) (by decide +kernel), px_tb (by decide +kernel) (by decide +kernel), by decide +kernel, by decide⟩
theorem lk_5_313 : px_Lk RX5 313 yX5_postStep cX5_postStep 4 none 3 := ⟨px_tb (by decide +kernel) (by decide +kernel), px_tb (by decide +kernel) (by decide +kernel), px_tb (by decide +kernel) (by decide +kernel), px_tb (by decide +kernel) (by decide +kernel), px_tb (by decide +kernel) (by decide +kernel), by decide +kernel, by decide⟩
theorem lk_5_316 : px_Lk RX5 316 yX5_microStep cX5_microStep 3 none 2 := ⟨px_tb (by decide +kernel) (by decide +kernel), px_tb (by decide +kernel) (by decide +kernel), px_tb (by decide +kernel) (by decide +kernel), px_tb (by decide +kernel) (by decide +kernel), px_tb (by decide +kernel) (by decide +kernel), by decide +kernel, by decide⟩
theorem lk_5_319 : px_Lk RX5 319 yX5_timerStep cX5_timerStep 5 none 4 := ⟨px_tb (by decide +kernel) (by decide +kernel), px_tb (by decide +kernel) (by decide +kernel), px_tb (by decide +kernel) (by decide +kernel), px_tb (by decide +kernel) (by decide +kernel), px_tb (by decide +kernel) (by decide +kernel), by decide +kernel, by decide⟩
theorem lk_5_283 : px_Lk RX5 283 yX4_remove cX4_remove 3 none 1 := ⟨px_tb (by decide +kernel) (by decide +kernel), px_tb (by decide +kernel) (by decide +kernel), px_tb (by decide +kernel) (by decide +kernel), px_tb (by decide +kernel) (by decide +kernel), px_tb (by decide +kernel) (by decide +kernel), by decide +kernel, by decide⟩
theorem lk_5_351 : px_Lk RX5 351 yX5_mayCall cX5_mayCall 2 (some .boolean) 1 := ⟨px_tb (by decide +kernel) (by decide +kernel), px_tb (by decide +kernel) (by decide +kernel), px_tb (by decide +kernel) (by decide +kernel), px_tb (by decide +kernel) (by decide +kernel), px_tb (by decide +kernel) (by decide +kernel), by decide +kernel, by decide⟩
theorem lk_5_225 : px_Lk RX5 225 yX5_run cX5_run 6 none 3 := ⟨px_tb (by decide +kernel) (by decide +kernel), px_tb (by decide +kernel) (by decide +kernel), px_tb (by decide +kernel) (by decide +kernel), px_tb (by decide +kernel) (by decide +kernel), px_tb (by decide +kernel) (by decide +kernel), by decide +kernel, by decide⟩
def fC_callStep (rn : px_M → Int32 → Int32 → Int32 → Option px_M) (M : px_M) (p1 p2 p3 : Int32) : Option px_M := px_bq (fC_mayCall M p3) (fun r2 => (if r2 = 0 then px_bq (fC_fail M (-1 : Int32)) (fun M5 => some M5) else px_bq (rn M p1 p2 (p3 + (1 : Int32))) (fun M7 => some M7)))
set_option maxHeartbeats 4000000 in
set_option maxRecDepth 100000 in
theorem cC_callStep (l : Launch) (D : va_G) (cs : Nat → ClassId) (ad : Nat → Nat) {rn : px_M → Int32 → Int32 → Int32 → Option px_M} {k : Nat} (hk : 3 ≤ k) (hrn : ∀ (M : px_M) (a b c : Int32) (M' : px_M), rn M a b c = some M' → px_mV l D (tyC cs) (wC cs ad) yX5_run cX5_run 6 k [.ref (ad 0), .int a, .int b, .int c] M M') {M : px_M} {p1 p2 p3 : Int32} {M' : px_M} (hf : fC_callStep rn M p1 p2 p3 = some M') : px_mV l D (tyC cs) (wC cs ad) yX5_callStep cX5_callStep 4 (k + 1) [.ref (ad 0), .int p1, .int p2, .int p3] M M' := by
  refine px_ofV (by decide +kernel) (Nat.le_of_ble_eq_true rfl) ?_
  intro p e s m below meth c A ls X hr hlk hml w hl
  have hl : lv_has ls 4 [(0, .ref (ad 0)), (1, .int p1), (2, .int p2), (3, .int p3)] := hl
  unfold fC_callStep at hf
  refine lv_aload_n X.1 X.2.1 dX5_callStep_0 rfl (lv_at hl 0 rfl) ?_
  refine lv_iload_n X.1 X.2.1 dX5_callStep_1 rfl (lv_at hl 3 rfl) ?_
  obtain ⟨r2, e1, hf⟩ := px_bq_e hf
  refine px_cI (As := [.int p3]) (rest := []) X hml hl w (cC_mayCall l D cs ad e1) lk_5_351 (by omega) (rcC_0 X.2.2.2.2 w) rfl (Nat.le_of_ble_eq_true rfl) dX5_callStep_2 (fun H locs w => ?_)
  refine lv_if_eq (tgt := 20) X.1 X.2.1 dX5_callStep_5 (by decide) (fun c3 => ?_) (fun c3 => ?_)
  · have hf := px_ip c3 hf
    refine lv_aload_n X.1 X.2.1 dX5_callStep_20 rfl (lv_at hl 0 rfl) ?_
    refine lv_iconst (v := (-1 : Int32)) X.1 X.2.1 dX5_callStep_21 (by decide) ?_
    obtain ⟨M5, e4, hf⟩ := px_bq_e hf
    refine px_cV (As := [.int (-1 : Int32)]) (rest := []) X hml hl w (cC_fail l D cs ad e4) lk_5_323 (by omega) (rcC_0 X.2.2.2.2 w) rfl (Nat.le_of_ble_eq_true rfl) dX5_callStep_22 (fun H locs w => ?_)
    cases hf
    exact px_retV X hr hlk w dX5_callStep_25
  · have hf := px_in c3 hf
    refine lv_aload_n X.1 X.2.1 dX5_callStep_8 rfl (lv_at hl 0 rfl) ?_
    refine lv_iload_n X.1 X.2.1 dX5_callStep_9 rfl (lv_at hl 1 rfl) ?_
    refine lv_iload_n X.1 X.2.1 dX5_callStep_10 rfl (lv_at hl 2 rfl) ?_
    refine lv_iload_n X.1 X.2.1 dX5_callStep_11 rfl (lv_at hl 3 rfl) ?_
    refine lv_iconst (v := (1 : Int32)) X.1 X.2.1 dX5_callStep_12 (by decide) ?_
    refine lv_iadd X.1 X.2.1 dX5_callStep_13 ?_
    obtain ⟨M7, e6, hf⟩ := px_bq_e hf
    refine px_cV (As := [.int p1, .int p2, .int (p3 + (1 : Int32))]) (rest := []) X hml hl w (hrn _ _ _ _ _ e6) lk_5_225 (by omega) (rcC_0 X.2.2.2.2 w) rfl (Nat.le_of_ble_eq_true rfl) dX5_callStep_14 (fun H locs w => ?_)
    refine lv_goto (tgt := 25) X.1 X.2.1 dX5_callStep_17 (by decide) ?_
    cases hf
    exact px_retV X hr hlk w dX5_callStep_25
theorem lk_5_326 : px_Lk RX5 326 yX5_callStep cX5_callStep 4 none 3 := ⟨px_tb (by decide +kernel) (by decide +kernel), px_tb (by decide +kernel) (by decide +kernel), px_tb (by decide +kernel) (by decide +kernel), px_tb (by decide +kernel) (by decide +kernel), px_tb (by decide +kernel) (by decide +kernel), by decide +kernel, by decide⟩
def fC_tryStep (rn : px_M → Int32 → Int32 → Int32 → Option px_M) (M : px_M) (p1 p2 p3 p4 : Int32) : Option px_M := px_bq (fC_mayCall M p4) (fun r2 => (if r2 = 0 then px_bq (fC_fail M (-1 : Int32)) (fun M10 => some M10) else px_bq (rn M p1 p3 (p4 + (1 : Int32))) (fun M5 => (if (M5 0 15) = 0 then some M5 else px_bq (fC_callStep rn M5 p2 (M5 0 17) p4) (fun M8 => some M8)))))
set_option maxHeartbeats 4000000 in
set_option maxRecDepth 100000 in
theorem cC_tryStep (l : Launch) (D : va_G) (cs : Nat → ClassId) (ad : Nat → Nat) {rn : px_M → Int32 → Int32 → Int32 → Option px_M} {k : Nat} (hk : 3 ≤ k) (hrn : ∀ (M : px_M) (a b c : Int32) (M' : px_M), rn M a b c = some M' → px_mV l D (tyC cs) (wC cs ad) yX5_run cX5_run 6 k [.ref (ad 0), .int a, .int b, .int c] M M') {M : px_M} {p1 p2 p3 p4 : Int32} {M' : px_M} (hf : fC_tryStep rn M p1 p2 p3 p4 = some M') : px_mV l D (tyC cs) (wC cs ad) yX5_tryStep cX5_tryStep 5 (k + 2) [.ref (ad 0), .int p1, .int p2, .int p3, .int p4] M M' := by
  refine px_ofV (by decide +kernel) (Nat.le_of_ble_eq_true rfl) ?_
  intro p e s m below meth c A ls X hr hlk hml w hl
  have hl : lv_has ls 5 [(0, .ref (ad 0)), (1, .int p1), (2, .int p2), (3, .int p3), (4, .int p4)] := hl
  unfold fC_tryStep at hf
  refine lv_aload_n X.1 X.2.1 dX5_tryStep_0 rfl (lv_at hl 0 rfl) ?_
  refine lv_iload X.1 X.2.1 dX5_tryStep_1 (lv_at hl 4 rfl) ?_
  obtain ⟨r2, e1, hf⟩ := px_bq_e hf
  refine px_cI (As := [.int p4]) (rest := []) X hml hl w (cC_mayCall l D cs ad e1) lk_5_351 (by omega) (rcC_0 X.2.2.2.2 w) rfl (Nat.le_of_ble_eq_true rfl) dX5_tryStep_3 (fun H locs w => ?_)
  refine lv_if_ne (tgt := 15) X.1 X.2.1 dX5_tryStep_6 (by decide) (fun c3 => ?_) (fun c3 => ?_)
  · have hf := px_in c3 hf
    refine lv_aload_n X.1 X.2.1 dX5_tryStep_15 rfl (lv_at hl 0 rfl) ?_
    refine lv_iload_n X.1 X.2.1 dX5_tryStep_16 rfl (lv_at hl 1 rfl) ?_
    refine lv_iload_n X.1 X.2.1 dX5_tryStep_17 rfl (lv_at hl 3 rfl) ?_
    refine lv_iload X.1 X.2.1 dX5_tryStep_18 (lv_at hl 4 rfl) ?_
    refine lv_iconst (v := (1 : Int32)) X.1 X.2.1 dX5_tryStep_20 (by decide) ?_
    refine lv_iadd X.1 X.2.1 dX5_tryStep_21 ?_
    obtain ⟨M5, e4, hf⟩ := px_bq_e hf
    refine px_cV (As := [.int p1, .int p3, .int (p4 + (1 : Int32))]) (rest := []) X hml hl w (hrn _ _ _ _ _ e4) lk_5_225 (by omega) (rcC_0 X.2.2.2.2 w) rfl (Nat.le_of_ble_eq_true rfl) dX5_tryStep_22 (fun H locs w => ?_)
    refine lv_aload_n X.1 X.2.1 dX5_tryStep_25 rfl (lv_at hl 0 rfl) ?_
    refine gtC_0_15 X w dX5_tryStep_26 ?_
    refine lv_if_eq (tgt := 43) X.1 X.2.1 dX5_tryStep_29 (by decide) (fun c6 => ?_) (fun c6 => ?_)
    · have hf := px_ip c6 hf
      cases hf
      exact px_retV X hr hlk w dX5_tryStep_43
    · have hf := px_in c6 hf
      refine lv_aload_n X.1 X.2.1 dX5_tryStep_32 rfl (lv_at hl 0 rfl) ?_
      refine lv_iload_n X.1 X.2.1 dX5_tryStep_33 rfl (lv_at hl 2 rfl) ?_
      refine lv_aload_n X.1 X.2.1 dX5_tryStep_34 rfl (lv_at hl 0 rfl) ?_
      refine gtC_0_17 X w dX5_tryStep_35 ?_
      refine lv_iload X.1 X.2.1 dX5_tryStep_38 (lv_at hl 4 rfl) ?_
      obtain ⟨M8, e7, hf⟩ := px_bq_e hf
      refine px_cV (As := [.int p2, .int (M5 0 17), .int p4]) (rest := []) X hml hl w (cC_callStep l D cs ad hk hrn e7) lk_5_326 (by omega) (rcC_0 X.2.2.2.2 w) rfl (Nat.le_of_ble_eq_true rfl) dX5_tryStep_40 (fun H locs w => ?_)
      cases hf
      exact px_retV X hr hlk w dX5_tryStep_43
  · have hf := px_ip c3 hf
    refine lv_aload_n X.1 X.2.1 dX5_tryStep_9 rfl (lv_at hl 0 rfl) ?_
    refine lv_iconst (v := (-1 : Int32)) X.1 X.2.1 dX5_tryStep_10 (by decide) ?_
    obtain ⟨M10, e9, hf⟩ := px_bq_e hf
    refine px_cV (As := [.int (-1 : Int32)]) (rest := []) X hml hl w (cC_fail l D cs ad e9) lk_5_323 (by omega) (rcC_0 X.2.2.2.2 w) rfl (Nat.le_of_ble_eq_true rfl) dX5_tryStep_11 (fun H locs w => ?_)
    cases hf
    exact px_retV X hr hlk w dX5_tryStep_14
theorem lk_5_329 : px_Lk RX5 329 yX5_tryStep cX5_tryStep 5 none 4 := ⟨px_tb (by decide +kernel) (by decide +kernel), px_tb (by decide +kernel) (by decide +kernel), px_tb (by decide +kernel) (by decide +kernel), px_tb (by decide +kernel) (by decide +kernel), px_tb (by decide +kernel) (by decide +kernel), by decide +kernel, by decide⟩
theorem lk_5_332 : px_Lk RX5 332 yX5_answerStep cX5_answerStep 5 none 3 := ⟨px_tb (by decide +kernel) (by decide +kernel), px_tb (by decide +kernel) (by decide +kernel), px_tb (by decide +kernel) (by decide +kernel), px_tb (by decide +kernel) (by decide +kernel), px_tb (by decide +kernel) (by decide +kernel), by decide +kernel, by decide⟩
theorem lk_5_335 : px_Lk RX5 335 yX5_makeStep cX5_makeStep 2 none 1 := ⟨px_tb (by decide +kernel) (by decide +kernel), px_tb (by decide +kernel) (by decide +kernel), px_tb (by decide +kernel) (by decide +kernel), px_tb (by decide +kernel) (by decide +kernel), px_tb (by decide +kernel) (by decide +kernel), by decide +kernel, by decide⟩
theorem lk_5_338 : px_Lk RX5 338 yX5_thenStep cX5_thenStep 5 none 3 := ⟨px_tb (by decide +kernel) (by decide +kernel), px_tb (by decide +kernel) (by decide +kernel), px_tb (by decide +kernel) (by decide +kernel), px_tb (by decide +kernel) (by decide +kernel), px_tb (by decide +kernel) (by decide +kernel), by decide +kernel, by decide⟩
theorem lk_5_341 : px_Lk RX5 341 yX5_frameStep cX5_frameStep 2 none 1 := ⟨px_tb (by decide +kernel) (by decide +kernel), px_tb (by decide +kernel) (by decide +kernel), px_tb (by decide +kernel) (by decide +kernel), px_tb (by decide +kernel) (by decide +kernel), px_tb (by decide +kernel) (by decide +kernel), by decide +kernel, by decide⟩
def fC_doStep (rn : px_M → Int32 → Int32 → Int32 → Option px_M) (M : px_M) (p1 p2 p3 p4 p5 : Int32) : Option px_M := (if p1 = (0 : Int32) then (if p3 = (1 : Int32) then px_bq (fC_Journal_keep_28 M p4) (fun M6 => some M6) else px_bq (fC_Journal_keep_28 M p2) (fun M4 => some M4)) else (if p1 = (1 : Int32) then px_bq (fC_postStep M p3 p2 p4) (fun M9 => some M9) else (if p1 = (2 : Int32) then px_bq (fC_microStep M p2 p4) (fun M12 => some M12) else (if p1 = (3 : Int32) then px_bq (fC_timerStep M p2 p4 p3 (0 : Int32)) (fun M15 => some M15) else (if p1 = (4 : Int32) then px_bq (fC_timerStep M p2 p4 p3 (1 : Int32)) (fun M18 => some M18) else (if p1 = (5 : Int32) then px_bq (fC_Timers_remove M p2) (fun M21 => some M21) else (if p1 = (6 : Int32) then (if p3 = (1 : Int32) then px_bq (fC_fail M p4) (fun M27 => some M27) else px_bq (fC_fail M p2) (fun M25 => some M25)) else (if p1 = (7 : Int32) then px_bq (fC_callStep rn M p2 p4 p5) (fun M30 => some M30) else (if p1 = (8 : Int32) then px_bq (fC_tryStep rn M p2 p3 p4 p5) (fun M33 => some M33) else (if p1 = (9 : Int32) then px_bq (fC_answerStep M p2 p3 p4) (fun M36 => some M36) else (if p1 = (10 : Int32) then px_bq (fC_makeStep M p2) (fun M39 => some M39) else (if p1 = (11 : Int32) then px_ck p2 8 ((if p3 = (1 : Int32) then px_bq (fC_Promises_resolveOrReject M (M 6 p2.toNatClampNeg) (2 : Int32) p4) (fun M46 => some M46) else px_bq (fC_Promises_resolveOrReject M (M 6 p2.toNatClampNeg) (1 : Int32) p4) (fun M44 => some M44))) else (if p1 = (12 : Int32) then px_ck p2 8 (px_ck p3 8 (px_bq (fC_Promises_follow M (M 6 p2.toNatClampNeg) (M 6 p3.toNatClampNeg)) (fun M51 => some M51))) else (if p1 = (13 : Int32) then px_bq (fC_thenStep M p2 (p3 - p3 / (16 : Int32) * (16 : Int32)) (p3 / (16 : Int32))) (fun M54 => some M54) else (if p1 = (14 : Int32) then px_bq (fC_frameStep M p2) (fun M57 => some M57) else (if p1 = (15 : Int32) then px_ck p3 8 (px_ck p2 8 (px_bn (px_up M 6 p2.toNatClampNeg (M 6 p3.toNatClampNeg)) (fun M61 => some M61))) else some M))))))))))))))))
set_option maxHeartbeats 4000000 in
set_option maxRecDepth 100000 in
theorem cC_doStep (l : Launch) (D : va_G) (cs : Nat → ClassId) (ad : Nat → Nat) {rn : px_M → Int32 → Int32 → Int32 → Option px_M} {k : Nat} (hk : 3 ≤ k) (hrn : ∀ (M : px_M) (a b c : Int32) (M' : px_M), rn M a b c = some M' → px_mV l D (tyC cs) (wC cs ad) yX5_run cX5_run 6 k [.ref (ad 0), .int a, .int b, .int c] M M') {M : px_M} {p1 p2 p3 p4 p5 : Int32} {M' : px_M} (hf : fC_doStep rn M p1 p2 p3 p4 p5 = some M') : px_mV l D (tyC cs) (wC cs ad) yX5_doStep cX5_doStep 6 (k + 3) [.ref (ad 0), .int p1, .int p2, .int p3, .int p4, .int p5] M M' := by
  refine px_ofV (by decide +kernel) (Nat.le_of_ble_eq_true rfl) ?_
  intro p e s m below meth c A ls X hr hlk hml w hl
  have hl : lv_has ls 6 [(0, .ref (ad 0)), (1, .int p1), (2, .int p2), (3, .int p3), (4, .int p4), (5, .int p5)] := hl
  unfold fC_doStep at hf
  refine lv_iload_n X.1 X.2.1 dX5_doStep_0 rfl (lv_at hl 1 rfl) ?_
  by_cases c1 : p1 = (0 : Int32)
  · have hf := px_ip c1 hf
    refine lv_tableIn (tgt := 80) X.1 X.2.1 dX5_doStep_1 (by rw [c1]; decide) (by rw [c1]; decide) (by rw [c1]; rfl) (by decide) ?_
    refine lv_aload_n X.1 X.2.1 dX5_doStep_80 rfl (lv_at hl 0 rfl) ?_
    refine gtC_0_5 X w dX5_doStep_81 ?_
    refine lv_iload_n X.1 X.2.1 dX5_doStep_84 rfl (lv_at hl 3 rfl) ?_
    refine lv_iconst (v := (1 : Int32)) X.1 X.2.1 dX5_doStep_85 (by decide) ?_
    refine lv_icmp_ne (tgt := 94) X.1 X.2.1 dX5_doStep_86 (by decide) (fun c2 => ?_) (fun c2 => ?_)
    · have hf := px_in c2 hf
      refine lv_iload_n X.1 X.2.1 dX5_doStep_94 rfl (lv_at hl 2 rfl) ?_
      obtain ⟨M4, e3, hf⟩ := px_bq_e hf
      refine px_cV (As := [.int p2]) (rest := []) X hml hl w (cC_Journal_keep_28 l D cs ad e3) lk_5_289 (by omega) (rcC_28 X.2.2.2.2 w) rfl (Nat.le_of_ble_eq_true rfl) dX5_doStep_95 (fun H locs w => ?_)
      refine lv_goto (tgt := 308) X.1 X.2.1 dX5_doStep_98 (by decide) ?_
      cases hf
      exact px_retV X hr hlk w dX5_doStep_308
    · have hf := px_ip c2 hf
      refine lv_iload X.1 X.2.1 dX5_doStep_89 (lv_at hl 4 rfl) ?_
      refine lv_goto (tgt := 95) X.1 X.2.1 dX5_doStep_91 (by decide) ?_
      obtain ⟨M6, e5, hf⟩ := px_bq_e hf
      refine px_cV (As := [.int p4]) (rest := []) X hml hl w (cC_Journal_keep_28 l D cs ad e5) lk_5_289 (by omega) (rcC_28 X.2.2.2.2 w) rfl (Nat.le_of_ble_eq_true rfl) dX5_doStep_95 (fun H locs w => ?_)
      refine lv_goto (tgt := 308) X.1 X.2.1 dX5_doStep_98 (by decide) ?_
      cases hf
      exact px_retV X hr hlk w dX5_doStep_308
  · have hf := px_in c1 hf
    by_cases c7 : p1 = (1 : Int32)
    · have hf := px_ip c7 hf
      refine lv_tableIn (tgt := 101) X.1 X.2.1 dX5_doStep_1 (by rw [c7]; decide) (by rw [c7]; decide) (by rw [c7]; rfl) (by decide) ?_
      refine lv_aload_n X.1 X.2.1 dX5_doStep_101 rfl (lv_at hl 0 rfl) ?_
      refine lv_iload_n X.1 X.2.1 dX5_doStep_102 rfl (lv_at hl 3 rfl) ?_
      refine lv_iload_n X.1 X.2.1 dX5_doStep_103 rfl (lv_at hl 2 rfl) ?_
      refine lv_iload X.1 X.2.1 dX5_doStep_104 (lv_at hl 4 rfl) ?_
      obtain ⟨M9, e8, hf⟩ := px_bq_e hf
      refine px_cV (As := [.int p3, .int p2, .int p4]) (rest := []) X hml hl w (cC_postStep l D cs ad e8) lk_5_313 (by omega) (rcC_0 X.2.2.2.2 w) rfl (Nat.le_of_ble_eq_true rfl) dX5_doStep_106 (fun H locs w => ?_)
      refine lv_goto (tgt := 308) X.1 X.2.1 dX5_doStep_109 (by decide) ?_
      cases hf
      exact px_retV X hr hlk w dX5_doStep_308
    · have hf := px_in c7 hf
      by_cases c10 : p1 = (2 : Int32)
      · have hf := px_ip c10 hf
        refine lv_tableIn (tgt := 112) X.1 X.2.1 dX5_doStep_1 (by rw [c10]; decide) (by rw [c10]; decide) (by rw [c10]; rfl) (by decide) ?_
        refine lv_aload_n X.1 X.2.1 dX5_doStep_112 rfl (lv_at hl 0 rfl) ?_
        refine lv_iload_n X.1 X.2.1 dX5_doStep_113 rfl (lv_at hl 2 rfl) ?_
        refine lv_iload X.1 X.2.1 dX5_doStep_114 (lv_at hl 4 rfl) ?_
        obtain ⟨M12, e11, hf⟩ := px_bq_e hf
        refine px_cV (As := [.int p2, .int p4]) (rest := []) X hml hl w (cC_microStep l D cs ad e11) lk_5_316 (by omega) (rcC_0 X.2.2.2.2 w) rfl (Nat.le_of_ble_eq_true rfl) dX5_doStep_116 (fun H locs w => ?_)
        refine lv_goto (tgt := 308) X.1 X.2.1 dX5_doStep_119 (by decide) ?_
        cases hf
        exact px_retV X hr hlk w dX5_doStep_308
      · have hf := px_in c10 hf
        by_cases c13 : p1 = (3 : Int32)
        · have hf := px_ip c13 hf
          refine lv_tableIn (tgt := 122) X.1 X.2.1 dX5_doStep_1 (by rw [c13]; decide) (by rw [c13]; decide) (by rw [c13]; rfl) (by decide) ?_
          refine lv_aload_n X.1 X.2.1 dX5_doStep_122 rfl (lv_at hl 0 rfl) ?_
          refine lv_iload_n X.1 X.2.1 dX5_doStep_123 rfl (lv_at hl 2 rfl) ?_
          refine lv_iload X.1 X.2.1 dX5_doStep_124 (lv_at hl 4 rfl) ?_
          refine lv_iload_n X.1 X.2.1 dX5_doStep_126 rfl (lv_at hl 3 rfl) ?_
          refine lv_iconst (v := (0 : Int32)) X.1 X.2.1 dX5_doStep_127 (by decide) ?_
          obtain ⟨M15, e14, hf⟩ := px_bq_e hf
          refine px_cV (As := [.int p2, .int p4, .int p3, .int (0 : Int32)]) (rest := []) X hml hl w (cC_timerStep l D cs ad e14) lk_5_319 (by omega) (rcC_0 X.2.2.2.2 w) rfl (Nat.le_of_ble_eq_true rfl) dX5_doStep_128 (fun H locs w => ?_)
          refine lv_goto (tgt := 308) X.1 X.2.1 dX5_doStep_131 (by decide) ?_
          cases hf
          exact px_retV X hr hlk w dX5_doStep_308
        · have hf := px_in c13 hf
          by_cases c16 : p1 = (4 : Int32)
          · have hf := px_ip c16 hf
            refine lv_tableIn (tgt := 134) X.1 X.2.1 dX5_doStep_1 (by rw [c16]; decide) (by rw [c16]; decide) (by rw [c16]; rfl) (by decide) ?_
            refine lv_aload_n X.1 X.2.1 dX5_doStep_134 rfl (lv_at hl 0 rfl) ?_
            refine lv_iload_n X.1 X.2.1 dX5_doStep_135 rfl (lv_at hl 2 rfl) ?_
            refine lv_iload X.1 X.2.1 dX5_doStep_136 (lv_at hl 4 rfl) ?_
            refine lv_iload_n X.1 X.2.1 dX5_doStep_138 rfl (lv_at hl 3 rfl) ?_
            refine lv_iconst (v := (1 : Int32)) X.1 X.2.1 dX5_doStep_139 (by decide) ?_
            obtain ⟨M18, e17, hf⟩ := px_bq_e hf
            refine px_cV (As := [.int p2, .int p4, .int p3, .int (1 : Int32)]) (rest := []) X hml hl w (cC_timerStep l D cs ad e17) lk_5_319 (by omega) (rcC_0 X.2.2.2.2 w) rfl (Nat.le_of_ble_eq_true rfl) dX5_doStep_140 (fun H locs w => ?_)
            refine lv_goto (tgt := 308) X.1 X.2.1 dX5_doStep_143 (by decide) ?_
            cases hf
            exact px_retV X hr hlk w dX5_doStep_308
          · have hf := px_in c16 hf
            by_cases c19 : p1 = (5 : Int32)
            · have hf := px_ip c19 hf
              refine lv_tableIn (tgt := 146) X.1 X.2.1 dX5_doStep_1 (by rw [c19]; decide) (by rw [c19]; decide) (by rw [c19]; rfl) (by decide) ?_
              refine lv_aload_n X.1 X.2.1 dX5_doStep_146 rfl (lv_at hl 0 rfl) ?_
              refine gtC_0_8 X w dX5_doStep_147 ?_
              refine lv_iload_n X.1 X.2.1 dX5_doStep_150 rfl (lv_at hl 2 rfl) ?_
              obtain ⟨M21, e20, hf⟩ := px_bq_e hf
              refine px_cV (As := [.int p2]) (rest := []) X hml hl w (cC_Timers_remove l D cs ad e20) lk_5_283 (by omega) (rcC_43 X.2.2.2.2 w) rfl (Nat.le_of_ble_eq_true rfl) dX5_doStep_151 (fun H locs w => ?_)
              refine lv_goto (tgt := 308) X.1 X.2.1 dX5_doStep_154 (by decide) ?_
              cases hf
              exact px_retV X hr hlk w dX5_doStep_308
            · have hf := px_in c19 hf
              by_cases c22 : p1 = (6 : Int32)
              · have hf := px_ip c22 hf
                refine lv_tableIn (tgt := 157) X.1 X.2.1 dX5_doStep_1 (by rw [c22]; decide) (by rw [c22]; decide) (by rw [c22]; rfl) (by decide) ?_
                refine lv_aload_n X.1 X.2.1 dX5_doStep_157 rfl (lv_at hl 0 rfl) ?_
                refine lv_iload_n X.1 X.2.1 dX5_doStep_158 rfl (lv_at hl 3 rfl) ?_
                refine lv_iconst (v := (1 : Int32)) X.1 X.2.1 dX5_doStep_159 (by decide) ?_
                refine lv_icmp_ne (tgt := 168) X.1 X.2.1 dX5_doStep_160 (by decide) (fun c23 => ?_) (fun c23 => ?_)
                · have hf := px_in c23 hf
                  refine lv_iload_n X.1 X.2.1 dX5_doStep_168 rfl (lv_at hl 2 rfl) ?_
                  obtain ⟨M25, e24, hf⟩ := px_bq_e hf
                  refine px_cV (As := [.int p2]) (rest := []) X hml hl w (cC_fail l D cs ad e24) lk_5_323 (by omega) (rcC_0 X.2.2.2.2 w) rfl (Nat.le_of_ble_eq_true rfl) dX5_doStep_169 (fun H locs w => ?_)
                  refine lv_goto (tgt := 308) X.1 X.2.1 dX5_doStep_172 (by decide) ?_
                  cases hf
                  exact px_retV X hr hlk w dX5_doStep_308
                · have hf := px_ip c23 hf
                  refine lv_iload X.1 X.2.1 dX5_doStep_163 (lv_at hl 4 rfl) ?_
                  refine lv_goto (tgt := 169) X.1 X.2.1 dX5_doStep_165 (by decide) ?_
                  obtain ⟨M27, e26, hf⟩ := px_bq_e hf
                  refine px_cV (As := [.int p4]) (rest := []) X hml hl w (cC_fail l D cs ad e26) lk_5_323 (by omega) (rcC_0 X.2.2.2.2 w) rfl (Nat.le_of_ble_eq_true rfl) dX5_doStep_169 (fun H locs w => ?_)
                  refine lv_goto (tgt := 308) X.1 X.2.1 dX5_doStep_172 (by decide) ?_
                  cases hf
                  exact px_retV X hr hlk w dX5_doStep_308
              · have hf := px_in c22 hf
                by_cases c28 : p1 = (7 : Int32)
                · have hf := px_ip c28 hf
                  refine lv_tableIn (tgt := 175) X.1 X.2.1 dX5_doStep_1 (by rw [c28]; decide) (by rw [c28]; decide) (by rw [c28]; rfl) (by decide) ?_
                  refine lv_aload_n X.1 X.2.1 dX5_doStep_175 rfl (lv_at hl 0 rfl) ?_
                  refine lv_iload_n X.1 X.2.1 dX5_doStep_176 rfl (lv_at hl 2 rfl) ?_
                  refine lv_iload X.1 X.2.1 dX5_doStep_177 (lv_at hl 4 rfl) ?_
                  refine lv_iload X.1 X.2.1 dX5_doStep_179 (lv_at hl 5 rfl) ?_
                  obtain ⟨M30, e29, hf⟩ := px_bq_e hf
                  refine px_cV (As := [.int p2, .int p4, .int p5]) (rest := []) X hml hl w (cC_callStep l D cs ad hk hrn e29) lk_5_326 (by omega) (rcC_0 X.2.2.2.2 w) rfl (Nat.le_of_ble_eq_true rfl) dX5_doStep_181 (fun H locs w => ?_)
                  refine lv_goto (tgt := 308) X.1 X.2.1 dX5_doStep_184 (by decide) ?_
                  cases hf
                  exact px_retV X hr hlk w dX5_doStep_308
                · have hf := px_in c28 hf
                  by_cases c31 : p1 = (8 : Int32)
                  · have hf := px_ip c31 hf
                    refine lv_tableIn (tgt := 187) X.1 X.2.1 dX5_doStep_1 (by rw [c31]; decide) (by rw [c31]; decide) (by rw [c31]; rfl) (by decide) ?_
                    refine lv_aload_n X.1 X.2.1 dX5_doStep_187 rfl (lv_at hl 0 rfl) ?_
                    refine lv_iload_n X.1 X.2.1 dX5_doStep_188 rfl (lv_at hl 2 rfl) ?_
                    refine lv_iload_n X.1 X.2.1 dX5_doStep_189 rfl (lv_at hl 3 rfl) ?_
                    refine lv_iload X.1 X.2.1 dX5_doStep_190 (lv_at hl 4 rfl) ?_
                    refine lv_iload X.1 X.2.1 dX5_doStep_192 (lv_at hl 5 rfl) ?_
                    obtain ⟨M33, e32, hf⟩ := px_bq_e hf
                    refine px_cV (As := [.int p2, .int p3, .int p4, .int p5]) (rest := []) X hml hl w (cC_tryStep l D cs ad hk hrn e32) lk_5_329 (by omega) (rcC_0 X.2.2.2.2 w) rfl (Nat.le_of_ble_eq_true rfl) dX5_doStep_194 (fun H locs w => ?_)
                    refine lv_goto (tgt := 308) X.1 X.2.1 dX5_doStep_197 (by decide) ?_
                    cases hf
                    exact px_retV X hr hlk w dX5_doStep_308
                  · have hf := px_in c31 hf
                    by_cases c34 : p1 = (9 : Int32)
                    · have hf := px_ip c34 hf
                      refine lv_tableIn (tgt := 200) X.1 X.2.1 dX5_doStep_1 (by rw [c34]; decide) (by rw [c34]; decide) (by rw [c34]; rfl) (by decide) ?_
                      refine lv_aload_n X.1 X.2.1 dX5_doStep_200 rfl (lv_at hl 0 rfl) ?_
                      refine lv_iload_n X.1 X.2.1 dX5_doStep_201 rfl (lv_at hl 2 rfl) ?_
                      refine lv_iload_n X.1 X.2.1 dX5_doStep_202 rfl (lv_at hl 3 rfl) ?_
                      refine lv_iload X.1 X.2.1 dX5_doStep_203 (lv_at hl 4 rfl) ?_
                      obtain ⟨M36, e35, hf⟩ := px_bq_e hf
                      refine px_cV (As := [.int p2, .int p3, .int p4]) (rest := []) X hml hl w (cC_answerStep l D cs ad e35) lk_5_332 (by omega) (rcC_0 X.2.2.2.2 w) rfl (Nat.le_of_ble_eq_true rfl) dX5_doStep_205 (fun H locs w => ?_)
                      refine lv_goto (tgt := 308) X.1 X.2.1 dX5_doStep_208 (by decide) ?_
                      cases hf
                      exact px_retV X hr hlk w dX5_doStep_308
                    · have hf := px_in c34 hf
                      by_cases c37 : p1 = (10 : Int32)
                      · have hf := px_ip c37 hf
                        refine lv_tableIn (tgt := 211) X.1 X.2.1 dX5_doStep_1 (by rw [c37]; decide) (by rw [c37]; decide) (by rw [c37]; rfl) (by decide) ?_
                        refine lv_aload_n X.1 X.2.1 dX5_doStep_211 rfl (lv_at hl 0 rfl) ?_
                        refine lv_iload_n X.1 X.2.1 dX5_doStep_212 rfl (lv_at hl 2 rfl) ?_
                        obtain ⟨M39, e38, hf⟩ := px_bq_e hf
                        refine px_cV (As := [.int p2]) (rest := []) X hml hl w (cC_makeStep l D cs ad e38) lk_5_335 (by omega) (rcC_0 X.2.2.2.2 w) rfl (Nat.le_of_ble_eq_true rfl) dX5_doStep_213 (fun H locs w => ?_)
                        refine lv_goto (tgt := 308) X.1 X.2.1 dX5_doStep_216 (by decide) ?_
                        cases hf
                        exact px_retV X hr hlk w dX5_doStep_308
                      · have hf := px_in c37 hf
                        by_cases c40 : p1 = (11 : Int32)
                        · have hf := px_ip c40 hf
                          refine lv_tableIn (tgt := 219) X.1 X.2.1 dX5_doStep_1 (by rw [c40]; decide) (by rw [c40]; decide) (by rw [c40]; rfl) (by decide) ?_
                          refine lv_aload_n X.1 X.2.1 dX5_doStep_219 rfl (lv_at hl 0 rfl) ?_
                          refine gtC_0_7 X w dX5_doStep_220 ?_
                          refine lv_aload_n X.1 X.2.1 dX5_doStep_223 rfl (lv_at hl 0 rfl) ?_
                          refine gtC_0_1 X w dX5_doStep_224 ?_
                          refine lv_iload_n X.1 X.2.1 dX5_doStep_227 rfl (lv_at hl 2 rfl) ?_
                          obtain ⟨b41, hf⟩ := px_ck_e hf
                          refine ilC_6 X w b41 dX5_doStep_228 ?_
                          refine lv_iload_n X.1 X.2.1 dX5_doStep_229 rfl (lv_at hl 3 rfl) ?_
                          refine lv_iconst (v := (1 : Int32)) X.1 X.2.1 dX5_doStep_230 (by decide) ?_
                          refine lv_icmp_ne (tgt := 238) X.1 X.2.1 dX5_doStep_231 (by decide) (fun c42 => ?_) (fun c42 => ?_)
                          · have hf := px_in c42 hf
                            refine lv_iconst (v := (1 : Int32)) X.1 X.2.1 dX5_doStep_238 (by decide) ?_
                            refine lv_iload X.1 X.2.1 dX5_doStep_239 (lv_at hl 4 rfl) ?_
                            obtain ⟨M44, e43, hf⟩ := px_bq_e hf
                            refine px_cV (As := [.int (M 6 p2.toNatClampNeg), .int (1 : Int32), .int p4]) (rest := []) X hml hl w (cC_Promises_resolveOrReject l D cs ad e43) lk_5_255 (by omega) (rcC_32 X.2.2.2.2 w) rfl (Nat.le_of_ble_eq_true rfl) dX5_doStep_241 (fun H locs w => ?_)
                            refine lv_goto (tgt := 308) X.1 X.2.1 dX5_doStep_244 (by decide) ?_
                            cases hf
                            exact px_retV X hr hlk w dX5_doStep_308
                          · have hf := px_ip c42 hf
                            refine lv_iconst (v := (2 : Int32)) X.1 X.2.1 dX5_doStep_234 (by decide) ?_
                            refine lv_goto (tgt := 239) X.1 X.2.1 dX5_doStep_235 (by decide) ?_
                            refine lv_iload X.1 X.2.1 dX5_doStep_239 (lv_at hl 4 rfl) ?_
                            obtain ⟨M46, e45, hf⟩ := px_bq_e hf
                            refine px_cV (As := [.int (M 6 p2.toNatClampNeg), .int (2 : Int32), .int p4]) (rest := []) X hml hl w (cC_Promises_resolveOrReject l D cs ad e45) lk_5_255 (by omega) (rcC_32 X.2.2.2.2 w) rfl (Nat.le_of_ble_eq_true rfl) dX5_doStep_241 (fun H locs w => ?_)
                            refine lv_goto (tgt := 308) X.1 X.2.1 dX5_doStep_244 (by decide) ?_
                            cases hf
                            exact px_retV X hr hlk w dX5_doStep_308
                        · have hf := px_in c40 hf
                          by_cases c47 : p1 = (12 : Int32)
                          · have hf := px_ip c47 hf
                            refine lv_tableIn (tgt := 247) X.1 X.2.1 dX5_doStep_1 (by rw [c47]; decide) (by rw [c47]; decide) (by rw [c47]; rfl) (by decide) ?_
                            refine lv_aload_n X.1 X.2.1 dX5_doStep_247 rfl (lv_at hl 0 rfl) ?_
                            refine gtC_0_7 X w dX5_doStep_248 ?_
                            refine lv_aload_n X.1 X.2.1 dX5_doStep_251 rfl (lv_at hl 0 rfl) ?_
                            refine gtC_0_1 X w dX5_doStep_252 ?_
                            refine lv_iload_n X.1 X.2.1 dX5_doStep_255 rfl (lv_at hl 2 rfl) ?_
                            obtain ⟨b48, hf⟩ := px_ck_e hf
                            refine ilC_6 X w b48 dX5_doStep_256 ?_
                            refine lv_aload_n X.1 X.2.1 dX5_doStep_257 rfl (lv_at hl 0 rfl) ?_
                            refine gtC_0_1 X w dX5_doStep_258 ?_
                            refine lv_iload_n X.1 X.2.1 dX5_doStep_261 rfl (lv_at hl 3 rfl) ?_
                            obtain ⟨b49, hf⟩ := px_ck_e hf
                            refine ilC_6 X w b49 dX5_doStep_262 ?_
                            obtain ⟨M51, e50, hf⟩ := px_bq_e hf
                            refine px_cV (As := [.int (M 6 p2.toNatClampNeg), .int (M 6 p3.toNatClampNeg)]) (rest := []) X hml hl w (cC_Promises_follow l D cs ad e50) lk_5_258 (by omega) (rcC_32 X.2.2.2.2 w) rfl (Nat.le_of_ble_eq_true rfl) dX5_doStep_263 (fun H locs w => ?_)
                            refine lv_goto (tgt := 308) X.1 X.2.1 dX5_doStep_266 (by decide) ?_
                            cases hf
                            exact px_retV X hr hlk w dX5_doStep_308
                          · have hf := px_in c47 hf
                            by_cases c52 : p1 = (13 : Int32)
                            · have hf := px_ip c52 hf
                              refine lv_tableIn (tgt := 269) X.1 X.2.1 dX5_doStep_1 (by rw [c52]; decide) (by rw [c52]; decide) (by rw [c52]; rfl) (by decide) ?_
                              refine lv_aload_n X.1 X.2.1 dX5_doStep_269 rfl (lv_at hl 0 rfl) ?_
                              refine lv_iload_n X.1 X.2.1 dX5_doStep_270 rfl (lv_at hl 2 rfl) ?_
                              refine lv_iload_n X.1 X.2.1 dX5_doStep_271 rfl (lv_at hl 3 rfl) ?_
                              refine lv_bipush (v := (16 : Int32)) X.1 X.2.1 dX5_doStep_272 (by decide) ?_
                              refine lv_irem X.1 X.2.1 dX5_doStep_274 (by decide) ?_
                              refine lv_iload_n X.1 X.2.1 dX5_doStep_275 rfl (lv_at hl 3 rfl) ?_
                              refine lv_bipush (v := (16 : Int32)) X.1 X.2.1 dX5_doStep_276 (by decide) ?_
                              refine lv_idiv X.1 X.2.1 dX5_doStep_278 (by decide) ?_
                              obtain ⟨M54, e53, hf⟩ := px_bq_e hf
                              refine px_cV (As := [.int p2, .int (p3 - p3 / (16 : Int32) * (16 : Int32)), .int (p3 / (16 : Int32))]) (rest := []) X hml hl w (cC_thenStep l D cs ad e53) lk_5_338 (by omega) (rcC_0 X.2.2.2.2 w) rfl (Nat.le_of_ble_eq_true rfl) dX5_doStep_279 (fun H locs w => ?_)
                              refine lv_goto (tgt := 308) X.1 X.2.1 dX5_doStep_282 (by decide) ?_
                              cases hf
                              exact px_retV X hr hlk w dX5_doStep_308
                            · have hf := px_in c52 hf
                              by_cases c55 : p1 = (14 : Int32)
                              · have hf := px_ip c55 hf
                                refine lv_tableIn (tgt := 285) X.1 X.2.1 dX5_doStep_1 (by rw [c55]; decide) (by rw [c55]; decide) (by rw [c55]; rfl) (by decide) ?_
                                refine lv_aload_n X.1 X.2.1 dX5_doStep_285 rfl (lv_at hl 0 rfl) ?_
                                refine lv_iload_n X.1 X.2.1 dX5_doStep_286 rfl (lv_at hl 2 rfl) ?_
                                obtain ⟨M57, e56, hf⟩ := px_bq_e hf
                                refine px_cV (As := [.int p2]) (rest := []) X hml hl w (cC_frameStep l D cs ad e56) lk_5_341 (by omega) (rcC_0 X.2.2.2.2 w) rfl (Nat.le_of_ble_eq_true rfl) dX5_doStep_287 (fun H locs w => ?_)
                                refine lv_goto (tgt := 308) X.1 X.2.1 dX5_doStep_290 (by decide) ?_
                                cases hf
                                exact px_retV X hr hlk w dX5_doStep_308
                              · have hf := px_in c55 hf
                                by_cases c58 : p1 = (15 : Int32)
                                · have hf := px_ip c58 hf
                                  refine lv_tableIn (tgt := 293) X.1 X.2.1 dX5_doStep_1 (by rw [c58]; decide) (by rw [c58]; decide) (by rw [c58]; rfl) (by decide) ?_
                                  refine lv_aload_n X.1 X.2.1 dX5_doStep_293 rfl (lv_at hl 0 rfl) ?_
                                  refine gtC_0_1 X w dX5_doStep_294 ?_
                                  refine lv_iload_n X.1 X.2.1 dX5_doStep_297 rfl (lv_at hl 2 rfl) ?_
                                  refine lv_aload_n X.1 X.2.1 dX5_doStep_298 rfl (lv_at hl 0 rfl) ?_
                                  refine gtC_0_1 X w dX5_doStep_299 ?_
                                  refine lv_iload_n X.1 X.2.1 dX5_doStep_302 rfl (lv_at hl 3 rfl) ?_
                                  obtain ⟨b59, hf⟩ := px_ck_e hf
                                  refine ilC_6 X w b59 dX5_doStep_303 ?_
                                  obtain ⟨b60, hf⟩ := px_ck_e hf
                                  refine isC_6 X w b60 dX5_doStep_304 (fun H locs w => ?_)
                                  obtain ⟨M61, eM61, hf⟩ := px_bn_e hf
                                  rw [← eM61] at w
                                  refine lv_goto (tgt := 308) X.1 X.2.1 dX5_doStep_305 (by decide) ?_
                                  cases hf
                                  exact px_retV X hr hlk w dX5_doStep_308
                                · have hf := px_in c58 hf
                                  refine lv_tableOut (tgt := 308) X.1 X.2.1 dX5_doStep_1 (by have := px_ne (v := 0) (by decide) c1; have := px_ne (v := 1) (by decide) c7; have := px_ne (v := 2) (by decide) c10; have := px_ne (v := 3) (by decide) c13; have := px_ne (v := 4) (by decide) c16; have := px_ne (v := 5) (by decide) c19; have := px_ne (v := 6) (by decide) c22; have := px_ne (v := 7) (by decide) c28; have := px_ne (v := 8) (by decide) c31; have := px_ne (v := 9) (by decide) c34; have := px_ne (v := 10) (by decide) c37; have := px_ne (v := 11) (by decide) c40; have := px_ne (v := 12) (by decide) c47; have := px_ne (v := 13) (by decide) c52; have := px_ne (v := 14) (by decide) c55; have := px_ne (v := 15) (by decide) c58; omega) (by decide) ?_
                                  cases hf
                                  exact px_retV X hr hlk w dX5_doStep_308
theorem lk_5_309 : px_Lk RX5 309 yX5_doStep cX5_doStep 6 none 5 := ⟨px_tb (by decide +kernel) (by decide +kernel), px_tb (by decide +kernel) (by decide +kernel), px_tb (by decide +kernel) (by decide +kernel), px_tb (by decide +kernel) (by decide +kernel), px_tb (by decide +kernel) (by decide +kernel), by decide +kernel, by decide⟩
def gC_run_L29 (rn : px_M → Int32 → Int32 → Int32 → Option px_M) (rc : px_M → Int32 → Int32 → Int32 → Int32 → Int32 → Option px_M) (M : px_M) (y1 y2 y3 y4 y5 : Int32) : Option px_M := (if y4 ≤ y5 then some M else (if (M 0 15) = 0 then px_bq (fC_Functions_code M y1 y5) (fun r11 => px_bq (fC_Functions_a M y1 y5) (fun r13 => px_bq (fC_Functions_b M y1 y5) (fun r15 => px_bq (fC_doStep rn M r11 r13 r15 y2 y3) (fun M17 => rc M17 y1 y2 y3 y4 (y5 + (1 : Int32)))))) else some M))
set_option maxHeartbeats 4000000 in
set_option maxRecDepth 100000 in
theorem lC_run_L29 {l : Launch} {D : va_G} {cs : Nat → ClassId} {ad : Nat → Nat} {p : Program} {e : Env} {s : State} {m : MethodId} {args : Array Value} {below : List Frame} {meth : Method} {c : Code} {A : Nat → Prop} {rn : px_M → Int32 → Int32 → Int32 → Option px_M} {k : Nat} (hk : 3 ≤ k) (hrn : ∀ (M : px_M) (a b c : Int32) (M' : px_M), rn M a b c = some M' → px_mV l D (tyC cs) (wC cs ad) yX5_run cX5_run 6 k [.ref (ad 0), .int a, .int b, .int c] M M') (X : px_X D (tyC cs) p s m args c cX5_run yX5_run.cls) (hr : meth.sig.returnType = none) (hlk : meth.locks = false) (hml : c.maxLocals = 6) : ∀ (j : Nat) (M : px_M) (y1 y2 y3 y4 y5 : Int32) (z : px_M), px_fx5 (gC_run_L29 rn) j M y1 y2 y3 y4 y5 = some z → ∀ (H : Heap) (locs : List Loc) (ls : Array Slot), px_H D (wC cs ad) A s.heap M H locs → lv_has ls 6 [(0, .ref (ad 0)), (1, .int y1), (2, .int y2), (3, .int y3), (4, .int y4), (5, .int y5)] → W p l e (px_rm (k + 4)) s m args below meth c H locs 0 0 (px_QV D (tyC cs) (wC cs ad) below args s A z) (F0 m 29 ls []) := by
  refine px_fx5_i (P := fun M y1 y2 y3 y4 y5 (z : px_M) => ∀ (H : Heap) (locs : List Loc) (ls : Array Slot), px_H D (wC cs ad) A s.heap M H locs → lv_has ls 6 [(0, .ref (ad 0)), (1, .int y1), (2, .int y2), (3, .int y3), (4, .int y4), (5, .int y5)] → W p l e (px_rm (k + 4)) s m args below meth c H locs 0 0 (px_QV D (tyC cs) (wC cs ad) below args s A z) (F0 m 29 ls [])) ?_
  intro rc ih M y1 y2 y3 y4 y5 z hf H locs ls w hl
  unfold gC_run_L29 at hf
  refine lv_iload X.1 X.2.1 dX5_run_29 (lv_at hl 5 rfl) ?_
  refine lv_iload X.1 X.2.1 dX5_run_31 (lv_at hl 4 rfl) ?_
  refine lv_icmp_ge (tgt := 85) X.1 X.2.1 dX5_run_33 (by decide) (fun c8 => ?_) (fun c8 => ?_)
  · have hf := px_ip c8 hf
    cases hf
    exact px_retV X hr hlk w dX5_run_85
  · have hf := px_in c8 hf
    refine lv_aload_n X.1 X.2.1 dX5_run_36 rfl (lv_at hl 0 rfl) ?_
    refine gtC_0_15 X w dX5_run_37 ?_
    refine lv_if_ne (tgt := 85) X.1 X.2.1 dX5_run_40 (by decide) (fun c9 => ?_) (fun c9 => ?_)
    · have hf := px_in c9 hf
      cases hf
      exact px_retV X hr hlk w dX5_run_85
    · have hf := px_ip c9 hf
      refine lv_aload_n X.1 X.2.1 dX5_run_43 rfl (lv_at hl 0 rfl) ?_
      refine lv_aload_n X.1 X.2.1 dX5_run_44 rfl (lv_at hl 0 rfl) ?_
      refine gtC_0_0 X w dX5_run_45 ?_
      refine lv_iload_n X.1 X.2.1 dX5_run_48 rfl (lv_at hl 1 rfl) ?_
      refine lv_iload X.1 X.2.1 dX5_run_49 (lv_at hl 5 rfl) ?_
      obtain ⟨r11, e10, hf⟩ := px_bq_e hf
      refine px_cI (As := [.int y1, .int y5]) (rest := [.ref (ad 0)]) X hml hl w (cC_Functions_code l D cs ad e10) lk_5_299 (by omega) (rcC_1 X.2.2.2.2 w) rfl (Nat.le_of_ble_eq_true rfl) dX5_run_51 (fun H locs w => ?_)
      refine lv_aload_n X.1 X.2.1 dX5_run_54 rfl (lv_at hl 0 rfl) ?_
      refine gtC_0_0 X w dX5_run_55 ?_
      refine lv_iload_n X.1 X.2.1 dX5_run_58 rfl (lv_at hl 1 rfl) ?_
      refine lv_iload X.1 X.2.1 dX5_run_59 (lv_at hl 5 rfl) ?_
      obtain ⟨r13, e12, hf⟩ := px_bq_e hf
      refine px_cI (As := [.int y1, .int y5]) (rest := [.int r11, .ref (ad 0)]) X hml hl w (cC_Functions_a l D cs ad e12) lk_5_303 (by omega) (rcC_1 X.2.2.2.2 w) rfl (Nat.le_of_ble_eq_true rfl) dX5_run_61 (fun H locs w => ?_)
      refine lv_aload_n X.1 X.2.1 dX5_run_64 rfl (lv_at hl 0 rfl) ?_
      refine gtC_0_0 X w dX5_run_65 ?_
      refine lv_iload_n X.1 X.2.1 dX5_run_68 rfl (lv_at hl 1 rfl) ?_
      refine lv_iload X.1 X.2.1 dX5_run_69 (lv_at hl 5 rfl) ?_
      obtain ⟨r15, e14, hf⟩ := px_bq_e hf
      refine px_cI (As := [.int y1, .int y5]) (rest := [.int r13, .int r11, .ref (ad 0)]) X hml hl w (cC_Functions_b l D cs ad e14) lk_5_306 (by omega) (rcC_1 X.2.2.2.2 w) rfl (Nat.le_of_ble_eq_true rfl) dX5_run_71 (fun H locs w => ?_)
      refine lv_iload_n X.1 X.2.1 dX5_run_74 rfl (lv_at hl 2 rfl) ?_
      refine lv_iload_n X.1 X.2.1 dX5_run_75 rfl (lv_at hl 3 rfl) ?_
      obtain ⟨M17, e16, hf⟩ := px_bq_e hf
      refine px_cV (As := [.int r11, .int r13, .int r15, .int y2, .int y3]) (rest := []) X hml hl w (cC_doStep l D cs ad hk hrn e16) lk_5_309 (by omega) (rcC_0 X.2.2.2.2 w) rfl (Nat.le_of_ble_eq_true rfl) dX5_run_76 (fun H locs w => ?_)
      refine lv_iinc (v := (y5 + (1 : Int32))) (lv' := [(5, .int (y5 + (1 : Int32))), (0, .ref (ad 0)), (1, .int y1), (2, .int y2), (3, .int y3), (4, .int y4)]) X.1 X.2.1 dX5_run_79 hl (k := 5) rfl rfl (by decide) rfl (fun ls hl => ?_)
      refine lv_goto (tgt := 29) X.1 X.2.1 dX5_run_82 (by decide) ?_
      exact ih M17 y1 y2 y3 y4 (y5 + (1 : Int32)) _ hf H locs ls w (lv_sub hl [1, 2, 3, 4, 5, 0] rfl)
def fC_runF (rn : px_M → Int32 → Int32 → Int32 → Option px_M) (M : px_M) (p1 p2 p3 : Int32) : Option px_M := px_bq (fC_countRun M p3) (fun M2 => px_bn (px_up M2 0 15 (0 : Int32)) (fun M3 => px_bq (fC_endWith M3 (0 : Int32) (0 : Int32)) (fun M5 => px_bq (fC_Functions_length M5 p1) (fun r7 => px_fx5 (gC_run_L29 rn) 7 M5 p1 p2 p3 r7 (0 : Int32)))))
set_option maxHeartbeats 4000000 in
set_option maxRecDepth 100000 in
theorem cC_runF (l : Launch) (D : va_G) (cs : Nat → ClassId) (ad : Nat → Nat) {rn : px_M → Int32 → Int32 → Int32 → Option px_M} {k : Nat} (hk : 3 ≤ k) (hrn : ∀ (M : px_M) (a b c : Int32) (M' : px_M), rn M a b c = some M' → px_mV l D (tyC cs) (wC cs ad) yX5_run cX5_run 6 k [.ref (ad 0), .int a, .int b, .int c] M M') {M : px_M} {p1 p2 p3 : Int32} {M' : px_M} (hf : fC_runF rn M p1 p2 p3 = some M') : px_mV l D (tyC cs) (wC cs ad) yX5_run cX5_run 6 (k + 4) [.ref (ad 0), .int p1, .int p2, .int p3] M M' := by
  refine px_ofV (by decide +kernel) (Nat.le_of_ble_eq_true rfl) ?_
  intro p e s m below meth c A ls X hr hlk hml w hl
  have hl : lv_has ls 6 [(0, .ref (ad 0)), (1, .int p1), (2, .int p2), (3, .int p3)] := hl
  unfold fC_runF at hf
  refine lv_aload_n X.1 X.2.1 dX5_run_0 rfl (lv_at hl 0 rfl) ?_
  refine lv_iload_n X.1 X.2.1 dX5_run_1 rfl (lv_at hl 3 rfl) ?_
  obtain ⟨M2, e1, hf⟩ := px_bq_e hf
  refine px_cV (As := [.int p3]) (rest := []) X hml hl w (cC_countRun l D cs ad e1) lk_5_292 (by omega) (rcC_0 X.2.2.2.2 w) rfl (Nat.le_of_ble_eq_true rfl) dX5_run_2 (fun H locs w => ?_)
  refine lv_aload_n X.1 X.2.1 dX5_run_5 rfl (lv_at hl 0 rfl) ?_
  refine lv_iconst (v := (0 : Int32)) X.1 X.2.1 dX5_run_6 (by decide) ?_
  refine ptC_0_15 X w rfl dX5_run_7 (fun H locs w => ?_)
  obtain ⟨M3, eM3, hf⟩ := px_bn_e hf
  rw [← eM3] at w
  refine lv_aload_n X.1 X.2.1 dX5_run_10 rfl (lv_at hl 0 rfl) ?_
  refine lv_iconst (v := (0 : Int32)) X.1 X.2.1 dX5_run_11 (by decide) ?_
  refine lv_iconst (v := (0 : Int32)) X.1 X.2.1 dX5_run_12 (by decide) ?_
  obtain ⟨M5, e4, hf⟩ := px_bq_e hf
  refine px_cV (As := [.int (0 : Int32), .int (0 : Int32)]) (rest := []) X hml hl w (cC_endWith l D cs ad e4) lk_5_295 (by omega) (rcC_0 X.2.2.2.2 w) rfl (Nat.le_of_ble_eq_true rfl) dX5_run_13 (fun H locs w => ?_)
  refine lv_aload_n X.1 X.2.1 dX5_run_16 rfl (lv_at hl 0 rfl) ?_
  refine gtC_0_0 X w dX5_run_17 ?_
  refine lv_iload_n X.1 X.2.1 dX5_run_20 rfl (lv_at hl 1 rfl) ?_
  obtain ⟨r7, e6, hf⟩ := px_bq_e hf
  refine px_cI (As := [.int p1]) (rest := []) X hml hl w (cC_Functions_length l D cs ad e6) lk_5_106 (by omega) (rcC_1 X.2.2.2.2 w) rfl (Nat.le_of_ble_eq_true rfl) dX5_run_21 (fun H locs w => ?_)
  refine lv_istore (lv' := [(4, .int r7), (0, .ref (ad 0)), (1, .int p1), (2, .int p2), (3, .int p3)]) X.1 X.2.1 dX5_run_24 hl (by decide) rfl (fun ls hl => ?_)
  refine lv_iconst (v := (0 : Int32)) X.1 X.2.1 dX5_run_26 (by decide) ?_
  refine lv_istore (lv' := [(5, .int (0 : Int32)), (4, .int r7), (0, .ref (ad 0)), (1, .int p1), (2, .int p2), (3, .int p3)]) X.1 X.2.1 dX5_run_27 hl (by decide) rfl (fun ls hl => ?_)
  exact lC_run_L29 hk hrn X hr hlk hml 7 M5 p1 p2 p3 r7 (0 : Int32) _ hf _ _ ls w (lv_sub hl [2, 3, 4, 5, 1, 0] rfl)
def fC_run (M : px_M) (p1 p2 p3 : Int32) : Option px_M := px_fx3 fC_runF 6 M p1 p2 p3
theorem cC_runN (l : Launch) (D : va_G) (cs : Nat → ClassId) (ad : Nat → Nat) : ∀ (j : Nat) (M : px_M) (a b c : Int32) (M' : px_M), px_fx3 fC_runF j M a b c = some M' → px_mV l D (tyC cs) (wC cs ad) yX5_run cX5_run 6 (3 + 4 * j) [.ref (ad 0), .int a, .int b, .int c] M M' := by
  intro j
  induction j with
  | zero => intro M a b c M' h; cases h
  | succ j ih => intro M a b c M' h; exact cC_runF l D cs ad (k := 3 + 4 * j) (by omega) ih h
theorem cC_run (l : Launch) (D : va_G) (cs : Nat → ClassId) (ad : Nat → Nat) {M : px_M} {p1 p2 p3 : Int32} {M' : px_M} (hf : fC_run M p1 p2 p3 = some M') : px_mV l D (tyC cs) (wC cs ad) yX5_run cX5_run 6 27 [.ref (ad 0), .int p1, .int p2, .int p3] M M' := cC_runN l D cs ad 6 M p1 p2 p3 M' hf
end
section
theorem lk_5_243 : px_Lk RX5 243 yX3_sourceOf cX3_sourceOf 2 (some .int) 1 := ⟨px_tb (by decide +kernel) (by decide +kernel), px_tb (by decide +kernel) (by decide +kernel), px_tb (by decide +kernel) (by decide +kernel), px_tb (by decide +kernel) (by decide +kernel), px_tb (by decide +kernel) (by decide +kernel), by decide +kernel, by decide⟩
theorem lk_5_246 : px_Lk RX5 246 yX3_targetOf cX3_targetOf 2 (some .int) 1 := ⟨px_tb (by decide +kernel) (by decide +kernel), px_tb (by decide +kernel) (by decide +kernel), px_tb (by decide +kernel) (by decide +kernel), px_tb (by decide +kernel) (by decide +kernel), px_tb (by decide +kernel) (by decide +kernel), by decide +kernel, by decide⟩
theorem lk_5_180 : px_Lk RX5 180 yX3_stateOf cX3_stateOf 2 (some .int) 1 := ⟨px_tb (by decide +kernel) (by decide +kernel), px_tb (by decide +kernel) (by decide +kernel), px_tb (by decide +kernel) (by decide +kernel), px_tb (by decide +kernel) (by decide +kernel), px_tb (by decide +kernel) (by decide +kernel), by decide +kernel, by decide⟩
theorem lk_5_185 : px_Lk RX5 185 yX3_numberOf cX3_numberOf 2 (some .int) 1 := ⟨px_tb (by decide +kernel) (by decide +kernel), px_tb (by decide +kernel) (by decide +kernel), px_tb (by decide +kernel) (by decide +kernel), px_tb (by decide +kernel) (by decide +kernel), px_tb (by decide +kernel) (by decide +kernel), by decide +kernel, by decide⟩
theorem lk_5_252 : px_Lk RX5 252 yX5_settleWithResult cX5_settleWithResult 2 none 1 := ⟨px_tb (by decide +kernel) (by decide +kernel), px_tb (by decide +kernel) (by decide +kernel), px_tb (by decide +kernel) (by decide +kernel), px_tb (by decide +kernel) (by decide +kernel), px_tb (by decide +kernel) (by decide +kernel), by decide +kernel, by decide⟩
theorem lk_5_249 : px_Lk RX5 249 yX3_settle cX3_settle 5 none 3 := ⟨px_tb (by decide +kernel) (by decide +kernel), px_tb (by decide +kernel) (by decide +kernel), px_tb (by decide +kernel) (by decide +kernel), px_tb (by decide +kernel) (by decide +kernel), px_tb (by decide +kernel) (by decide +kernel), by decide +kernel, by decide⟩
def fC_doReaction (M : px_M) (p1 : Int32) : Option px_M := px_bq (fC_Promises_sourceOf M p1) (fun r2 => px_bq (fC_Promises_targetOf M p1) (fun r4 => px_bq (fC_Promises_stateOf M r2) (fun r6 => px_bq (fC_Promises_numberOf M r2) (fun r8 => px_bq (fC_Promises_functionOf M p1) (fun r10 => (if r10 = (16 : Int32) then px_bq (fC_Promises_settle M r4 r6 r8) (fun M22 => some M22) else px_bq (fC_isFunction M r10) (fun r13 => (if r13 = 0 then px_bq (fC_Promises_resolveOrReject M r4 r6 r8) (fun M16 => some M16) else px_bq (fC_run M r10 r8 (1 : Int32)) (fun M18 => px_bq (fC_settleWithResult M18 r4) (fun M20 => some M20))))))))))
set_option maxHeartbeats 4000000 in
set_option maxRecDepth 100000 in
theorem cC_doReaction (l : Launch) (D : va_G) (cs : Nat → ClassId) (ad : Nat → Nat) {M : px_M} {p1 : Int32} {M' : px_M} (hf : fC_doReaction M p1 = some M') : px_mV l D (tyC cs) (wC cs ad) yX5_doReaction cX5_doReaction 7 28 [.ref (ad 0), .int p1] M M' := by
  refine px_ofV (by decide +kernel) (Nat.le_of_ble_eq_true rfl) ?_
  intro p e s m below meth c A ls X hr hlk hml w hl
  have hl : lv_has ls 7 [(0, .ref (ad 0)), (1, .int p1)] := hl
  unfold fC_doReaction at hf
  refine lv_aload_n X.1 X.2.1 dX5_doReaction_0 rfl (lv_at hl 0 rfl) ?_
  refine gtC_0_7 X w dX5_doReaction_1 ?_
  refine lv_iload_n X.1 X.2.1 dX5_doReaction_4 rfl (lv_at hl 1 rfl) ?_
  obtain ⟨r2, e1, hf⟩ := px_bq_e hf
  refine px_cI (As := [.int p1]) (rest := []) X hml hl w (cC_Promises_sourceOf l D cs ad e1) lk_5_243 (by decide) (rcC_32 X.2.2.2.2 w) rfl (Nat.le_of_ble_eq_true rfl) dX5_doReaction_5 (fun H locs w => ?_)
  refine lv_istore_n (lv' := [(2, .int r2), (0, .ref (ad 0)), (1, .int p1)]) X.1 X.2.1 dX5_doReaction_8 rfl hl (by decide) rfl (fun ls hl => ?_)
  refine lv_aload_n X.1 X.2.1 dX5_doReaction_9 rfl (lv_at hl 1 rfl) ?_
  refine gtC_0_7 X w dX5_doReaction_10 ?_
  refine lv_iload_n X.1 X.2.1 dX5_doReaction_13 rfl (lv_at hl 2 rfl) ?_
  obtain ⟨r4, e3, hf⟩ := px_bq_e hf
  refine px_cI (As := [.int p1]) (rest := []) X hml hl w (cC_Promises_targetOf l D cs ad e3) lk_5_246 (by decide) (rcC_32 X.2.2.2.2 w) rfl (Nat.le_of_ble_eq_true rfl) dX5_doReaction_14 (fun H locs w => ?_)
  refine lv_istore_n (lv' := [(3, .int r4), (2, .int r2), (0, .ref (ad 0)), (1, .int p1)]) X.1 X.2.1 dX5_doReaction_17 rfl hl (by decide) rfl (fun ls hl => ?_)
  refine lv_aload_n X.1 X.2.1 dX5_doReaction_18 rfl (lv_at hl 2 rfl) ?_
  refine gtC_0_7 X w dX5_doReaction_19 ?_
  refine lv_iload_n X.1 X.2.1 dX5_doReaction_22 rfl (lv_at hl 1 rfl) ?_
  obtain ⟨r6, e5, hf⟩ := px_bq_e hf
  refine px_cI (As := [.int r2]) (rest := []) X hml hl w (cC_Promises_stateOf l D cs ad e5) lk_5_180 (by decide) (rcC_32 X.2.2.2.2 w) rfl (Nat.le_of_ble_eq_true rfl) dX5_doReaction_23 (fun H locs w => ?_)
  refine lv_istore (lv' := [(4, .int r6), (3, .int r4), (2, .int r2), (0, .ref (ad 0)), (1, .int p1)]) X.1 X.2.1 dX5_doReaction_26 hl (by decide) rfl (fun ls hl => ?_)
  refine lv_aload_n X.1 X.2.1 dX5_doReaction_28 rfl (lv_at hl 3 rfl) ?_
  refine gtC_0_7 X w dX5_doReaction_29 ?_
  refine lv_iload_n X.1 X.2.1 dX5_doReaction_32 rfl (lv_at hl 2 rfl) ?_
  obtain ⟨r8, e7, hf⟩ := px_bq_e hf
  refine px_cI (As := [.int r2]) (rest := []) X hml hl w (cC_Promises_numberOf l D cs ad e7) lk_5_185 (by decide) (rcC_32 X.2.2.2.2 w) rfl (Nat.le_of_ble_eq_true rfl) dX5_doReaction_33 (fun H locs w => ?_)
  refine lv_istore (lv' := [(5, .int r8), (4, .int r6), (3, .int r4), (2, .int r2), (0, .ref (ad 0)), (1, .int p1)]) X.1 X.2.1 dX5_doReaction_36 hl (by decide) rfl (fun ls hl => ?_)
  refine lv_aload_n X.1 X.2.1 dX5_doReaction_38 rfl (lv_at hl 4 rfl) ?_
  refine gtC_0_7 X w dX5_doReaction_39 ?_
  refine lv_iload_n X.1 X.2.1 dX5_doReaction_42 rfl (lv_at hl 5 rfl) ?_
  obtain ⟨r10, e9, hf⟩ := px_bq_e hf
  refine px_cI (As := [.int p1]) (rest := []) X hml hl w (cC_Promises_functionOf l D cs ad e9) lk_5_240 (by decide) (rcC_32 X.2.2.2.2 w) rfl (Nat.le_of_ble_eq_true rfl) dX5_doReaction_43 (fun H locs w => ?_)
  refine lv_istore (lv' := [(6, .int r10), (5, .int r8), (4, .int r6), (3, .int r4), (2, .int r2), (0, .ref (ad 0)), (1, .int p1)]) X.1 X.2.1 dX5_doReaction_46 hl (by decide) rfl (fun ls hl => ?_)
  refine lv_iload X.1 X.2.1 dX5_doReaction_48 (lv_at hl 0 rfl) ?_
  refine lv_bipush (v := (16 : Int32)) X.1 X.2.1 dX5_doReaction_50 (by decide) ?_
  refine lv_icmp_ne (tgt := 70) X.1 X.2.1 dX5_doReaction_52 (by decide) (fun c11 => ?_) (fun c11 => ?_)
  · have hf := px_in c11 hf
    refine lv_iload X.1 X.2.1 dX5_doReaction_70 (lv_at hl 0 rfl) ?_
    obtain ⟨r13, e12, hf⟩ := px_bq_e hf
    refine px_cS (As := [.int r10]) (rest := []) X hml hl w (cC_isFunction l D cs ad e12) lk_5_91 (by decide) rfl (Nat.le_of_ble_eq_true rfl) dX5_doReaction_72 (fun H locs w => ?_)
    refine lv_if_eq (tgt := 95) X.1 X.2.1 dX5_doReaction_75 (by decide) (fun c14 => ?_) (fun c14 => ?_)
    · have hf := px_ip c14 hf
      refine lv_aload_n X.1 X.2.1 dX5_doReaction_95 rfl (lv_at hl 5 rfl) ?_
      refine gtC_0_7 X w dX5_doReaction_96 ?_
      refine lv_iload_n X.1 X.2.1 dX5_doReaction_99 rfl (lv_at hl 3 rfl) ?_
      refine lv_iload X.1 X.2.1 dX5_doReaction_100 (lv_at hl 2 rfl) ?_
      refine lv_iload X.1 X.2.1 dX5_doReaction_102 (lv_at hl 1 rfl) ?_
      obtain ⟨M16, e15, hf⟩ := px_bq_e hf
      refine px_cV (As := [.int r4, .int r6, .int r8]) (rest := []) X hml hl w (cC_Promises_resolveOrReject l D cs ad e15) lk_5_255 (by decide) (rcC_32 X.2.2.2.2 w) rfl (Nat.le_of_ble_eq_true rfl) dX5_doReaction_104 (fun H locs w => ?_)
      cases hf
      exact px_retV X hr hlk w dX5_doReaction_107
    · have hf := px_in c14 hf
      refine lv_aload_n X.1 X.2.1 dX5_doReaction_78 rfl (lv_at hl 5 rfl) ?_
      refine lv_iload X.1 X.2.1 dX5_doReaction_79 (lv_at hl 0 rfl) ?_
      refine lv_iload X.1 X.2.1 dX5_doReaction_81 (lv_at hl 1 rfl) ?_
      refine lv_iconst (v := (1 : Int32)) X.1 X.2.1 dX5_doReaction_83 (by decide) ?_
      obtain ⟨M18, e17, hf⟩ := px_bq_e hf
      refine px_cV (As := [.int r10, .int r8, .int (1 : Int32)]) (rest := []) X hml hl w (cC_run l D cs ad e17) lk_5_225 (by decide) (rcC_0 X.2.2.2.2 w) rfl (Nat.le_of_ble_eq_true rfl) dX5_doReaction_84 (fun H locs w => ?_)
      refine lv_aload_n X.1 X.2.1 dX5_doReaction_87 rfl (lv_at hl 5 rfl) ?_
      refine lv_iload_n X.1 X.2.1 dX5_doReaction_88 rfl (lv_at hl 3 rfl) ?_
      obtain ⟨M20, e19, hf⟩ := px_bq_e hf
      refine px_cV (As := [.int r4]) (rest := []) X hml hl w (cC_settleWithResult l D cs ad e19) lk_5_252 (by decide) (rcC_0 X.2.2.2.2 w) rfl (Nat.le_of_ble_eq_true rfl) dX5_doReaction_89 (fun H locs w => ?_)
      refine lv_goto (tgt := 107) X.1 X.2.1 dX5_doReaction_92 (by decide) ?_
      cases hf
      exact px_retV X hr hlk w dX5_doReaction_107
  · have hf := px_ip c11 hf
    refine lv_aload_n X.1 X.2.1 dX5_doReaction_55 rfl (lv_at hl 5 rfl) ?_
    refine gtC_0_7 X w dX5_doReaction_56 ?_
    refine lv_iload_n X.1 X.2.1 dX5_doReaction_59 rfl (lv_at hl 3 rfl) ?_
    refine lv_iload X.1 X.2.1 dX5_doReaction_60 (lv_at hl 2 rfl) ?_
    refine lv_iload X.1 X.2.1 dX5_doReaction_62 (lv_at hl 1 rfl) ?_
    obtain ⟨M22, e21, hf⟩ := px_bq_e hf
    refine px_cV (As := [.int r4, .int r6, .int r8]) (rest := []) X hml hl w (cC_Promises_settle l D cs ad e21) lk_5_249 (by decide) (rcC_32 X.2.2.2.2 w) rfl (Nat.le_of_ble_eq_true rfl) dX5_doReaction_64 (fun H locs w => ?_)
    refine lv_goto (tgt := 107) X.1 X.2.1 dX5_doReaction_67 (by decide) ?_
    cases hf
    exact px_retV X hr hlk w dX5_doReaction_107
theorem lk_5_237 : px_Lk RX5 237 yX3_reportUnhandled cX3_reportUnhandled 3 none 0 := ⟨px_tb (by decide +kernel) (by decide +kernel), px_tb (by decide +kernel) (by decide +kernel), px_tb (by decide +kernel) (by decide +kernel), px_tb (by decide +kernel) (by decide +kernel), px_tb (by decide +kernel) (by decide +kernel), by decide +kernel, by decide⟩
theorem lk_5_219 : px_Lk RX5 219 yX2_number cX2_number 1 (some .int) 0 := ⟨px_tb (by decide +kernel) (by decide +kernel), px_tb (by decide +kernel) (by decide +kernel), px_tb (by decide +kernel) (by decide +kernel), px_tb (by decide +kernel) (by decide +kernel), px_tb (by decide +kernel) (by decide +kernel), by decide +kernel, by decide⟩
theorem lk_5_222 : px_Lk RX5 222 yX2_drop cX2_drop 1 none 0 := ⟨px_tb (by decide +kernel) (by decide +kernel), px_tb (by decide +kernel) (by decide +kernel), px_tb (by decide +kernel) (by decide +kernel), px_tb (by decide +kernel) (by decide +kernel), px_tb (by decide +kernel) (by decide +kernel), by decide +kernel, by decide⟩
theorem lk_5_231 : px_Lk RX5 231 yX5_doReaction cX5_doReaction 7 none 1 := ⟨px_tb (by decide +kernel) (by decide +kernel), px_tb (by decide +kernel) (by decide +kernel), px_tb (by decide +kernel) (by decide +kernel), px_tb (by decide +kernel) (by decide +kernel), px_tb (by decide +kernel) (by decide +kernel), by decide +kernel, by decide⟩
theorem lk_5_228 : px_Lk RX5 228 yX5_reportFailure cX5_reportFailure 1 none 0 := ⟨px_tb (by decide +kernel) (by decide +kernel), px_tb (by decide +kernel) (by decide +kernel), px_tb (by decide +kernel) (by decide +kernel), px_tb (by decide +kernel) (by decide +kernel), px_tb (by decide +kernel) (by decide +kernel), by decide +kernel, by decide⟩
theorem lk_5_210 : px_Lk RX5 210 yX5_microtaskBeginsRun cX5_microtaskBeginsRun 2 (some .boolean) 0 := ⟨px_tb (by decide +kernel) (by decide +kernel), px_tb (by decide +kernel) (by decide +kernel), px_tb (by decide +kernel) (by decide +kernel), px_tb (by decide +kernel) (by decide +kernel), px_tb (by decide +kernel) (by decide +kernel), by decide +kernel, by decide⟩
def gC_checkpoint_L2 (rc : px_M → Int32 → Option (Int32 × px_M)) (M : px_M) (y1 : Int32) : Option (Int32 × px_M) := (if (1000 : Int32) ≤ y1 then px_bq (fC_Promises_reportUnhandled M) (fun M3 => some ((1 : Int32), M3)) else px_bq (fC_Line_size_20 M) (fun r5 => (if r5 ≤ 0 then px_bq (fC_Promises_reportUnhandled M) (fun M8 => some ((1 : Int32), M8)) else (if (M 0 12) < (50 : Int32) then px_bq (fC_Line_kind_20 M) (fun r11 => px_bq (fC_Line_subject_20 M) (fun r13 => px_bq (fC_Line_number_20 M) (fun r15 => px_bq (fC_Line_drop_20 M) (fun M17 => (if r11 = 0 then px_bq (fC_run M17 r13 r15 (1 : Int32)) (fun M25 => px_bq (fC_reportFailure M25) (fun M27 => rc M27 (y1 + (1 : Int32)))) else (if r11 = (2 : Int32) then px_bq (fC_doReaction M17 r13) (fun M23 => rc M23 (y1 + (1 : Int32))) else px_bq (fC_Promises_react M17 r15 (16 : Int32) (16 : Int32) r13) (fun M21 => rc M21 (y1 + (1 : Int32))))))))) else px_bq (fC_microtaskBeginsRun M) (fun r29 => (if r29 = 0 then px_bq (fC_Line_kind_20 M) (fun r32 => px_bq (fC_Line_subject_20 M) (fun r34 => px_bq (fC_Line_number_20 M) (fun r36 => px_bq (fC_Line_drop_20 M) (fun M38 => (if r32 = 0 then px_bq (fC_run M38 r34 r36 (1 : Int32)) (fun M46 => px_bq (fC_reportFailure M46) (fun M48 => rc M48 (y1 + (1 : Int32)))) else (if r32 = (2 : Int32) then px_bq (fC_doReaction M38 r34) (fun M44 => rc M44 (y1 + (1 : Int32))) else px_bq (fC_Promises_react M38 r36 (16 : Int32) (16 : Int32) r34) (fun M42 => rc M42 (y1 + (1 : Int32))))))))) else some ((0 : Int32), M)))))))
set_option maxHeartbeats 4000000 in
set_option maxRecDepth 100000 in
theorem lC_checkpoint_L2 {l : Launch} {D : va_G} {cs : Nat → ClassId} {ad : Nat → Nat} {p : Program} {e : Env} {s : State} {m : MethodId} {args : Array Value} {below : List Frame} {meth : Method} {c : Code} {A : Nat → Prop} (X : px_X D (tyC cs) p s m args c cX5_checkpoint yX5_checkpoint.cls) (hr : meth.sig.returnType = (some .boolean)) (hlk : meth.locks = false) (hml : c.maxLocals = 5) : ∀ (j : Nat) (M : px_M) (y1 : Int32) (z : Int32 × px_M), px_fx1 gC_checkpoint_L2 j M y1 = some z → ∀ (H : Heap) (locs : List Loc) (ls : Array Slot), px_H D (wC cs ad) A s.heap M H locs → lv_has ls 5 [(0, .ref (ad 0)), (1, .int y1)] → W p l e (px_rm 29) s m args below meth c H locs 0 0 (px_QI D (tyC cs) (wC cs ad) below args s A z.1 z.2) (F0 m 2 ls []) := by
  refine px_fx1_i (P := fun M y1 (z : Int32 × px_M) => ∀ (H : Heap) (locs : List Loc) (ls : Array Slot), px_H D (wC cs ad) A s.heap M H locs → lv_has ls 5 [(0, .ref (ad 0)), (1, .int y1)] → W p l e (px_rm 29) s m args below meth c H locs 0 0 (px_QI D (tyC cs) (wC cs ad) below args s A z.1 z.2) (F0 m 2 ls [])) ?_
  intro rc ih M y1 z hf H locs ls w hl
  unfold gC_checkpoint_L2 at hf
  refine lv_iload_n X.1 X.2.1 dX5_checkpoint_2 rfl (lv_at hl 1 rfl) ?_
  refine lv_sipush (v := (1000 : Int32)) X.1 X.2.1 dX5_checkpoint_3 (by decide) ?_
  refine lv_icmp_ge (tgt := 121) X.1 X.2.1 dX5_checkpoint_6 (by decide) (fun c1 => ?_) (fun c1 => ?_)
  · have hf := px_ip c1 hf
    refine lv_aload_n X.1 X.2.1 dX5_checkpoint_121 rfl (lv_at hl 0 rfl) ?_
    refine gtC_0_7 X w dX5_checkpoint_122 ?_
    obtain ⟨M3, e2, hf⟩ := px_bq_e hf
    refine px_cV (As := []) (rest := []) X hml hl w (cC_Promises_reportUnhandled l D cs ad e2) lk_5_237 (by decide) (rcC_32 X.2.2.2.2 w) rfl (Nat.le_of_ble_eq_true rfl) dX5_checkpoint_125 (fun H locs w => ?_)
    refine lv_iconst (v := (1 : Int32)) X.1 X.2.1 dX5_checkpoint_128 (by decide) ?_
    cases hf
    exact px_retZ X hr hlk narrow_b1 w dX5_checkpoint_129
  · have hf := px_in c1 hf
    refine lv_aload_n X.1 X.2.1 dX5_checkpoint_9 rfl (lv_at hl 0 rfl) ?_
    refine gtC_0_3 X w dX5_checkpoint_10 ?_
    obtain ⟨r5, e4, hf⟩ := px_bq_e hf
    refine px_cI (As := []) (rest := []) X hml hl w (cC_Line_size_20 l D cs ad e4) lk_5_148 (by decide) (rcC_20 X.2.2.2.2 w) rfl (Nat.le_of_ble_eq_true rfl) dX5_checkpoint_13 (fun H locs w => ?_)
    refine lv_if_le (tgt := 121) X.1 X.2.1 dX5_checkpoint_16 (by decide) (fun c6 => ?_) (fun c6 => ?_)
    · have hf := px_ip c6 hf
      refine lv_aload_n X.1 X.2.1 dX5_checkpoint_121 rfl (lv_at hl 0 rfl) ?_
      refine gtC_0_7 X w dX5_checkpoint_122 ?_
      obtain ⟨M8, e7, hf⟩ := px_bq_e hf
      refine px_cV (As := []) (rest := []) X hml hl w (cC_Promises_reportUnhandled l D cs ad e7) lk_5_237 (by decide) (rcC_32 X.2.2.2.2 w) rfl (Nat.le_of_ble_eq_true rfl) dX5_checkpoint_125 (fun H locs w => ?_)
      refine lv_iconst (v := (1 : Int32)) X.1 X.2.1 dX5_checkpoint_128 (by decide) ?_
      cases hf
      exact px_retZ X hr hlk narrow_b1 w dX5_checkpoint_129
    · have hf := px_in c6 hf
      refine lv_aload_n X.1 X.2.1 dX5_checkpoint_19 rfl (lv_at hl 0 rfl) ?_
      refine gtC_0_12 X w dX5_checkpoint_20 ?_
      refine lv_bipush (v := (50 : Int32)) X.1 X.2.1 dX5_checkpoint_23 (by decide) ?_
      refine lv_icmp_lt (tgt := 37) X.1 X.2.1 dX5_checkpoint_25 (by decide) (fun c9 => ?_) (fun c9 => ?_)
      · have hf := px_ip c9 hf
        refine lv_aload_n X.1 X.2.1 dX5_checkpoint_37 rfl (lv_at hl 0 rfl) ?_
        refine gtC_0_3 X w dX5_checkpoint_38 ?_
        obtain ⟨r11, e10, hf⟩ := px_bq_e hf
        refine px_cI (As := []) (rest := []) X hml hl w (cC_Line_kind_20 l D cs ad e10) lk_5_213 (by decide) (rcC_20 X.2.2.2.2 w) rfl (Nat.le_of_ble_eq_true rfl) dX5_checkpoint_41 (fun H locs w => ?_)
        refine lv_istore_n (lv' := [(2, .int r11), (0, .ref (ad 0)), (1, .int y1)]) X.1 X.2.1 dX5_checkpoint_44 rfl hl (by decide) rfl (fun ls hl => ?_)
        refine lv_aload_n X.1 X.2.1 dX5_checkpoint_45 rfl (lv_at hl 1 rfl) ?_
        refine gtC_0_3 X w dX5_checkpoint_46 ?_
        obtain ⟨r13, e12, hf⟩ := px_bq_e hf
        refine px_cI (As := []) (rest := []) X hml hl w (cC_Line_subject_20 l D cs ad e12) lk_5_216 (by decide) (rcC_20 X.2.2.2.2 w) rfl (Nat.le_of_ble_eq_true rfl) dX5_checkpoint_49 (fun H locs w => ?_)
        refine lv_istore_n (lv' := [(3, .int r13), (2, .int r11), (0, .ref (ad 0)), (1, .int y1)]) X.1 X.2.1 dX5_checkpoint_52 rfl hl (by decide) rfl (fun ls hl => ?_)
        refine lv_aload_n X.1 X.2.1 dX5_checkpoint_53 rfl (lv_at hl 2 rfl) ?_
        refine gtC_0_3 X w dX5_checkpoint_54 ?_
        obtain ⟨r15, e14, hf⟩ := px_bq_e hf
        refine px_cI (As := []) (rest := []) X hml hl w (cC_Line_number_20 l D cs ad e14) lk_5_219 (by decide) (rcC_20 X.2.2.2.2 w) rfl (Nat.le_of_ble_eq_true rfl) dX5_checkpoint_57 (fun H locs w => ?_)
        refine lv_istore (lv' := [(4, .int r15), (3, .int r13), (2, .int r11), (0, .ref (ad 0)), (1, .int y1)]) X.1 X.2.1 dX5_checkpoint_60 hl (by decide) rfl (fun ls hl => ?_)
        refine lv_aload_n X.1 X.2.1 dX5_checkpoint_62 rfl (lv_at hl 3 rfl) ?_
        refine gtC_0_3 X w dX5_checkpoint_63 ?_
        obtain ⟨M17, e16, hf⟩ := px_bq_e hf
        refine px_cV (As := []) (rest := []) X hml hl w (cC_Line_drop_20 l D cs ad e16) lk_5_222 (by decide) (rcC_20 X.2.2.2.2 w) rfl (Nat.le_of_ble_eq_true rfl) dX5_checkpoint_66 (fun H locs w => ?_)
        refine lv_iload_n X.1 X.2.1 dX5_checkpoint_69 rfl (lv_at hl 2 rfl) ?_
        refine lv_if_ne (tgt := 88) X.1 X.2.1 dX5_checkpoint_70 (by decide) (fun c18 => ?_) (fun c18 => ?_)
        · have hf := px_in c18 hf
          refine lv_iload_n X.1 X.2.1 dX5_checkpoint_88 rfl (lv_at hl 2 rfl) ?_
          refine lv_iconst (v := (2 : Int32)) X.1 X.2.1 dX5_checkpoint_89 (by decide) ?_
          refine lv_icmp_ne (tgt := 101) X.1 X.2.1 dX5_checkpoint_90 (by decide) (fun c19 => ?_) (fun c19 => ?_)
          · have hf := px_in c19 hf
            refine lv_aload_n X.1 X.2.1 dX5_checkpoint_101 rfl (lv_at hl 3 rfl) ?_
            refine gtC_0_7 X w dX5_checkpoint_102 ?_
            refine lv_iload X.1 X.2.1 dX5_checkpoint_105 (lv_at hl 0 rfl) ?_
            refine lv_bipush (v := (16 : Int32)) X.1 X.2.1 dX5_checkpoint_107 (by decide) ?_
            refine lv_bipush (v := (16 : Int32)) X.1 X.2.1 dX5_checkpoint_109 (by decide) ?_
            refine lv_iload_n X.1 X.2.1 dX5_checkpoint_111 rfl (lv_at hl 1 rfl) ?_
            obtain ⟨M21, e20, hf⟩ := px_bq_e hf
            refine px_cV (As := [.int r15, .int (16 : Int32), .int (16 : Int32), .int r13]) (rest := []) X hml hl w (cC_Promises_react l D cs ad e20) lk_5_234 (by decide) (rcC_32 X.2.2.2.2 w) rfl (Nat.le_of_ble_eq_true rfl) dX5_checkpoint_112 (fun H locs w => ?_)
            refine lv_iinc (v := (y1 + (1 : Int32))) (lv' := [(1, .int (y1 + (1 : Int32))), (4, .int r15), (3, .int r13), (2, .int r11), (0, .ref (ad 0))]) X.1 X.2.1 dX5_checkpoint_115 hl (k := 4) rfl rfl (by decide) rfl (fun ls hl => ?_)
            refine lv_goto (tgt := 2) X.1 X.2.1 dX5_checkpoint_118 (by decide) ?_
            exact ih M21 (y1 + (1 : Int32)) _ hf H locs ls w (lv_sub hl [4, 0] rfl)
          · have hf := px_ip c19 hf
            refine lv_aload_n X.1 X.2.1 dX5_checkpoint_93 rfl (lv_at hl 3 rfl) ?_
            refine lv_iload_n X.1 X.2.1 dX5_checkpoint_94 rfl (lv_at hl 1 rfl) ?_
            obtain ⟨M23, e22, hf⟩ := px_bq_e hf
            refine px_cV (As := [.int r13]) (rest := []) X hml hl w (cC_doReaction l D cs ad e22) lk_5_231 (by decide) (rcC_0 X.2.2.2.2 w) rfl (Nat.le_of_ble_eq_true rfl) dX5_checkpoint_95 (fun H locs w => ?_)
            refine lv_goto (tgt := 115) X.1 X.2.1 dX5_checkpoint_98 (by decide) ?_
            refine lv_iinc (v := (y1 + (1 : Int32))) (lv' := [(1, .int (y1 + (1 : Int32))), (4, .int r15), (3, .int r13), (2, .int r11), (0, .ref (ad 0))]) X.1 X.2.1 dX5_checkpoint_115 hl (k := 4) rfl rfl (by decide) rfl (fun ls hl => ?_)
            refine lv_goto (tgt := 2) X.1 X.2.1 dX5_checkpoint_118 (by decide) ?_
            exact ih M23 (y1 + (1 : Int32)) _ hf H locs ls w (lv_sub hl [4, 0] rfl)
        · have hf := px_ip c18 hf
          refine lv_aload_n X.1 X.2.1 dX5_checkpoint_73 rfl (lv_at hl 3 rfl) ?_
          refine lv_iload_n X.1 X.2.1 dX5_checkpoint_74 rfl (lv_at hl 1 rfl) ?_
          refine lv_iload X.1 X.2.1 dX5_checkpoint_75 (lv_at hl 0 rfl) ?_
          refine lv_iconst (v := (1 : Int32)) X.1 X.2.1 dX5_checkpoint_77 (by decide) ?_
          obtain ⟨M25, e24, hf⟩ := px_bq_e hf
          refine px_cV (As := [.int r13, .int r15, .int (1 : Int32)]) (rest := []) X hml hl w (cC_run l D cs ad e24) lk_5_225 (by decide) (rcC_0 X.2.2.2.2 w) rfl (Nat.le_of_ble_eq_true rfl) dX5_checkpoint_78 (fun H locs w => ?_)
          refine lv_aload_n X.1 X.2.1 dX5_checkpoint_81 rfl (lv_at hl 3 rfl) ?_
          obtain ⟨M27, e26, hf⟩ := px_bq_e hf
          refine px_cV (As := []) (rest := []) X hml hl w (cC_reportFailure l D cs ad e26) lk_5_228 (by decide) (rcC_0 X.2.2.2.2 w) rfl (Nat.le_of_ble_eq_true rfl) dX5_checkpoint_82 (fun H locs w => ?_)
          refine lv_goto (tgt := 115) X.1 X.2.1 dX5_checkpoint_85 (by decide) ?_
          refine lv_iinc (v := (y1 + (1 : Int32))) (lv' := [(1, .int (y1 + (1 : Int32))), (4, .int r15), (3, .int r13), (2, .int r11), (0, .ref (ad 0))]) X.1 X.2.1 dX5_checkpoint_115 hl (k := 4) rfl rfl (by decide) rfl (fun ls hl => ?_)
          refine lv_goto (tgt := 2) X.1 X.2.1 dX5_checkpoint_118 (by decide) ?_
          exact ih M27 (y1 + (1 : Int32)) _ hf H locs ls w (lv_sub hl [4, 0] rfl)
      · have hf := px_in c9 hf
        refine lv_aload_n X.1 X.2.1 dX5_checkpoint_28 rfl (lv_at hl 0 rfl) ?_
        obtain ⟨r29, e28, hf⟩ := px_bq_e hf
        refine px_cI (As := []) (rest := []) X hml hl w (cC_microtaskBeginsRun l D cs ad e28) lk_5_210 (by decide) (rcC_0 X.2.2.2.2 w) rfl (Nat.le_of_ble_eq_true rfl) dX5_checkpoint_29 (fun H locs w => ?_)
        refine lv_if_eq (tgt := 37) X.1 X.2.1 dX5_checkpoint_32 (by decide) (fun c30 => ?_) (fun c30 => ?_)
        · have hf := px_ip c30 hf
          refine lv_aload_n X.1 X.2.1 dX5_checkpoint_37 rfl (lv_at hl 0 rfl) ?_
          refine gtC_0_3 X w dX5_checkpoint_38 ?_
          obtain ⟨r32, e31, hf⟩ := px_bq_e hf
          refine px_cI (As := []) (rest := []) X hml hl w (cC_Line_kind_20 l D cs ad e31) lk_5_213 (by decide) (rcC_20 X.2.2.2.2 w) rfl (Nat.le_of_ble_eq_true rfl) dX5_checkpoint_41 (fun H locs w => ?_)
          refine lv_istore_n (lv' := [(2, .int r32), (0, .ref (ad 0)), (1, .int y1)]) X.1 X.2.1 dX5_checkpoint_44 rfl hl (by decide) rfl (fun ls hl => ?_)
          refine lv_aload_n X.1 X.2.1 dX5_checkpoint_45 rfl (lv_at hl 1 rfl) ?_
          refine gtC_0_3 X w dX5_checkpoint_46 ?_
          obtain ⟨r34, e33, hf⟩ := px_bq_e hf
          refine px_cI (As := []) (rest := []) X hml hl w (cC_Line_subject_20 l D cs ad e33) lk_5_216 (by decide) (rcC_20 X.2.2.2.2 w) rfl (Nat.le_of_ble_eq_true rfl) dX5_checkpoint_49 (fun H locs w => ?_)
          refine lv_istore_n (lv' := [(3, .int r34), (2, .int r32), (0, .ref (ad 0)), (1, .int y1)]) X.1 X.2.1 dX5_checkpoint_52 rfl hl (by decide) rfl (fun ls hl => ?_)
          refine lv_aload_n X.1 X.2.1 dX5_checkpoint_53 rfl (lv_at hl 2 rfl) ?_
          refine gtC_0_3 X w dX5_checkpoint_54 ?_
          obtain ⟨r36, e35, hf⟩ := px_bq_e hf
          refine px_cI (As := []) (rest := []) X hml hl w (cC_Line_number_20 l D cs ad e35) lk_5_219 (by decide) (rcC_20 X.2.2.2.2 w) rfl (Nat.le_of_ble_eq_true rfl) dX5_checkpoint_57 (fun H locs w => ?_)
          refine lv_istore (lv' := [(4, .int r36), (3, .int r34), (2, .int r32), (0, .ref (ad 0)), (1, .int y1)]) X.1 X.2.1 dX5_checkpoint_60 hl (by decide) rfl (fun ls hl => ?_)
          refine lv_aload_n X.1 X.2.1 dX5_checkpoint_62 rfl (lv_at hl 3 rfl) ?_
          refine gtC_0_3 X w dX5_checkpoint_63 ?_
          obtain ⟨M38, e37, hf⟩ := px_bq_e hf
          refine px_cV (As := []) (rest := []) X hml hl w (cC_Line_drop_20 l D cs ad e37) lk_5_222 (by decide) (rcC_20 X.2.2.2.2 w) rfl (Nat.le_of_ble_eq_true rfl) dX5_checkpoint_66 (fun H locs w => ?_)
          refine lv_iload_n X.1 X.2.1 dX5_checkpoint_69 rfl (lv_at hl 2 rfl) ?_
          refine lv_if_ne (tgt := 88) X.1 X.2.1 dX5_checkpoint_70 (by decide) (fun c39 => ?_) (fun c39 => ?_)
          · have hf := px_in c39 hf
            refine lv_iload_n X.1 X.2.1 dX5_checkpoint_88 rfl (lv_at hl 2 rfl) ?_
            refine lv_iconst (v := (2 : Int32)) X.1 X.2.1 dX5_checkpoint_89 (by decide) ?_
            refine lv_icmp_ne (tgt := 101) X.1 X.2.1 dX5_checkpoint_90 (by decide) (fun c40 => ?_) (fun c40 => ?_)
            · have hf := px_in c40 hf
              refine lv_aload_n X.1 X.2.1 dX5_checkpoint_101 rfl (lv_at hl 3 rfl) ?_
              refine gtC_0_7 X w dX5_checkpoint_102 ?_
              refine lv_iload X.1 X.2.1 dX5_checkpoint_105 (lv_at hl 0 rfl) ?_
              refine lv_bipush (v := (16 : Int32)) X.1 X.2.1 dX5_checkpoint_107 (by decide) ?_
              refine lv_bipush (v := (16 : Int32)) X.1 X.2.1 dX5_checkpoint_109 (by decide) ?_
              refine lv_iload_n X.1 X.2.1 dX5_checkpoint_111 rfl (lv_at hl 1 rfl) ?_
              obtain ⟨M42, e41, hf⟩ := px_bq_e hf
              refine px_cV (As := [.int r36, .int (16 : Int32), .int (16 : Int32), .int r34]) (rest := []) X hml hl w (cC_Promises_react l D cs ad e41) lk_5_234 (by decide) (rcC_32 X.2.2.2.2 w) rfl (Nat.le_of_ble_eq_true rfl) dX5_checkpoint_112 (fun H locs w => ?_)
              refine lv_iinc (v := (y1 + (1 : Int32))) (lv' := [(1, .int (y1 + (1 : Int32))), (4, .int r36), (3, .int r34), (2, .int r32), (0, .ref (ad 0))]) X.1 X.2.1 dX5_checkpoint_115 hl (k := 4) rfl rfl (by decide) rfl (fun ls hl => ?_)
              refine lv_goto (tgt := 2) X.1 X.2.1 dX5_checkpoint_118 (by decide) ?_
              exact ih M42 (y1 + (1 : Int32)) _ hf H locs ls w (lv_sub hl [4, 0] rfl)
            · have hf := px_ip c40 hf
              refine lv_aload_n X.1 X.2.1 dX5_checkpoint_93 rfl (lv_at hl 3 rfl) ?_
              refine lv_iload_n X.1 X.2.1 dX5_checkpoint_94 rfl (lv_at hl 1 rfl) ?_
              obtain ⟨M44, e43, hf⟩ := px_bq_e hf
              refine px_cV (As := [.int r34]) (rest := []) X hml hl w (cC_doReaction l D cs ad e43) lk_5_231 (by decide) (rcC_0 X.2.2.2.2 w) rfl (Nat.le_of_ble_eq_true rfl) dX5_checkpoint_95 (fun H locs w => ?_)
              refine lv_goto (tgt := 115) X.1 X.2.1 dX5_checkpoint_98 (by decide) ?_
              refine lv_iinc (v := (y1 + (1 : Int32))) (lv' := [(1, .int (y1 + (1 : Int32))), (4, .int r36), (3, .int r34), (2, .int r32), (0, .ref (ad 0))]) X.1 X.2.1 dX5_checkpoint_115 hl (k := 4) rfl rfl (by decide) rfl (fun ls hl => ?_)
              refine lv_goto (tgt := 2) X.1 X.2.1 dX5_checkpoint_118 (by decide) ?_
              exact ih M44 (y1 + (1 : Int32)) _ hf H locs ls w (lv_sub hl [4, 0] rfl)
          · have hf := px_ip c39 hf
            refine lv_aload_n X.1 X.2.1 dX5_checkpoint_73 rfl (lv_at hl 3 rfl) ?_
            refine lv_iload_n X.1 X.2.1 dX5_checkpoint_74 rfl (lv_at hl 1 rfl) ?_
            refine lv_iload X.1 X.2.1 dX5_checkpoint_75 (lv_at hl 0 rfl) ?_
            refine lv_iconst (v := (1 : Int32)) X.1 X.2.1 dX5_checkpoint_77 (by decide) ?_
            obtain ⟨M46, e45, hf⟩ := px_bq_e hf
            refine px_cV (As := [.int r34, .int r36, .int (1 : Int32)]) (rest := []) X hml hl w (cC_run l D cs ad e45) lk_5_225 (by decide) (rcC_0 X.2.2.2.2 w) rfl (Nat.le_of_ble_eq_true rfl) dX5_checkpoint_78 (fun H locs w => ?_)
            refine lv_aload_n X.1 X.2.1 dX5_checkpoint_81 rfl (lv_at hl 3 rfl) ?_
            obtain ⟨M48, e47, hf⟩ := px_bq_e hf
            refine px_cV (As := []) (rest := []) X hml hl w (cC_reportFailure l D cs ad e47) lk_5_228 (by decide) (rcC_0 X.2.2.2.2 w) rfl (Nat.le_of_ble_eq_true rfl) dX5_checkpoint_82 (fun H locs w => ?_)
            refine lv_goto (tgt := 115) X.1 X.2.1 dX5_checkpoint_85 (by decide) ?_
            refine lv_iinc (v := (y1 + (1 : Int32))) (lv' := [(1, .int (y1 + (1 : Int32))), (4, .int r36), (3, .int r34), (2, .int r32), (0, .ref (ad 0))]) X.1 X.2.1 dX5_checkpoint_115 hl (k := 4) rfl rfl (by decide) rfl (fun ls hl => ?_)
            refine lv_goto (tgt := 2) X.1 X.2.1 dX5_checkpoint_118 (by decide) ?_
            exact ih M48 (y1 + (1 : Int32)) _ hf H locs ls w (lv_sub hl [4, 0] rfl)
        · have hf := px_in c30 hf
          refine lv_iconst (v := (0 : Int32)) X.1 X.2.1 dX5_checkpoint_35 (by decide) ?_
          cases hf
          exact px_retZ X hr hlk narrow_b0 w dX5_checkpoint_36
def fC_checkpoint (M : px_M) : Option (Int32 × px_M) := px_fx1 gC_checkpoint_L2 1001 M (0 : Int32)
set_option maxHeartbeats 4000000 in
set_option maxRecDepth 100000 in
theorem cC_checkpoint (l : Launch) (D : va_G) (cs : Nat → ClassId) (ad : Nat → Nat) {M : px_M} {r : Int32} {M' : px_M} (hf : fC_checkpoint M = some (r, M')) : px_mI l D (tyC cs) (wC cs ad) yX5_checkpoint cX5_checkpoint 5 (some .boolean) 29 [.ref (ad 0)] M r M' := by
  refine px_ofI (by decide +kernel) (Nat.le_of_ble_eq_true rfl) ?_
  intro p e s m below meth c A ls X hr hlk hml w hl
  have hl : lv_has ls 5 [(0, .ref (ad 0))] := hl
  unfold fC_checkpoint at hf
  refine lv_iconst (v := (0 : Int32)) X.1 X.2.1 dX5_checkpoint_0 (by decide) ?_
  refine lv_istore_n (lv' := [(1, .int (0 : Int32)), (0, .ref (ad 0))]) X.1 X.2.1 dX5_checkpoint_1 rfl hl (by decide) rfl (fun ls hl => ?_)
  exact lC_checkpoint_L2 X hr hlk hml 1001 M (0 : Int32) _ hf _ _ ls w (lv_sub hl [1, 0] rfl)
theorem lk_5_265 : px_Lk RX5 265 yX4_find cX4_find 3 (some .int) 1 := ⟨px_tb (by decide +kernel) (by decide +kernel), px_tb (by decide +kernel) (by decide +kernel), px_tb (by decide +kernel) (by decide +kernel), px_tb (by decide +kernel) (by decide +kernel), px_tb (by decide +kernel) (by decide +kernel), by decide +kernel, by decide⟩
theorem lk_5_271 : px_Lk RX5 271 yX4_functionAt cX4_functionAt 2 (some .int) 1 := ⟨px_tb (by decide +kernel) (by decide +kernel), px_tb (by decide +kernel) (by decide +kernel), px_tb (by decide +kernel) (by decide +kernel), px_tb (by decide +kernel) (by decide +kernel), px_tb (by decide +kernel) (by decide +kernel), by decide +kernel, by decide⟩
theorem lk_5_274 : px_Lk RX5 274 yX4_argumentAt cX4_argumentAt 2 (some .int) 1 := ⟨px_tb (by decide +kernel) (by decide +kernel), px_tb (by decide +kernel) (by decide +kernel), px_tb (by decide +kernel) (by decide +kernel), px_tb (by decide +kernel) (by decide +kernel), px_tb (by decide +kernel) (by decide +kernel), by decide +kernel, by decide⟩
theorem lk_5_277 : px_Lk RX5 277 yX4_levelAt cX4_levelAt 2 (some .int) 1 := ⟨px_tb (by decide +kernel) (by decide +kernel), px_tb (by decide +kernel) (by decide +kernel), px_tb (by decide +kernel) (by decide +kernel), px_tb (by decide +kernel) (by decide +kernel), px_tb (by decide +kernel) (by decide +kernel), by decide +kernel, by decide⟩
theorem lk_5_280 : px_Lk RX5 280 yX4_repeatsAt cX4_repeatsAt 2 (some .boolean) 1 := ⟨px_tb (by decide +kernel) (by decide +kernel), px_tb (by decide +kernel) (by decide +kernel), px_tb (by decide +kernel) (by decide +kernel), px_tb (by decide +kernel) (by decide +kernel), px_tb (by decide +kernel) (by decide +kernel), by decide +kernel, by decide⟩
theorem lk_5_286 : px_Lk RX5 286 yX4_restart cX4_restart 4 none 2 := ⟨px_tb (by decide +kernel) (by decide +kernel), px_tb (by decide +kernel) (by decide +kernel), px_tb (by decide +kernel) (by decide +kernel), px_tb (by decide +kernel) (by decide +kernel), px_tb (by decide +kernel) (by decide +kernel), by decide +kernel, by decide⟩
def fC_doTimer (M : px_M) (p1 : Int32) : Option px_M := px_bq (fC_Timers_find M p1) (fun r2 => (if r2 = (-1 : Int32) then some M else px_bq (fC_Timers_functionAt M r2) (fun r5 => px_bq (fC_Timers_argumentAt M r2) (fun r7 => px_bq (fC_Timers_levelAt M r2) (fun r9 => px_bn (px_up M 0 14 r9) (fun M10 => px_bq (fC_Timers_repeatsAt M10 r2) (fun r12 => (if r12 = 0 then px_bq (fC_Timers_remove M10 p1) (fun M22 => px_bq (fC_run M22 r5 r7 (1 : Int32)) (fun M24 => px_bq (fC_reportFailure M24) (fun M26 => px_bn (px_up M26 0 14 (0 : Int32)) (fun M27 => px_bq (fC_Timers_restart M27 p1 (M27 0 10)) (fun M29 => some M29))))) else px_bq (fC_run M10 r5 r7 (1 : Int32)) (fun M15 => px_bq (fC_reportFailure M15) (fun M17 => px_bn (px_up M17 0 14 (0 : Int32)) (fun M18 => px_bq (fC_Timers_restart M18 p1 (M18 0 10)) (fun M20 => some M20))))))))))))
set_option maxHeartbeats 4000000 in
set_option maxRecDepth 100000 in
theorem cC_doTimer (l : Launch) (D : va_G) (cs : Nat → ClassId) (ad : Nat → Nat) {M : px_M} {p1 : Int32} {M' : px_M} (hf : fC_doTimer M p1 = some M') : px_mV l D (tyC cs) (wC cs ad) yX5_doTimer cX5_doTimer 5 28 [.ref (ad 0), .int p1] M M' := by
  refine px_ofV (by decide +kernel) (Nat.le_of_ble_eq_true rfl) ?_
  intro p e s m below meth c A ls X hr hlk hml w hl
  have hl : lv_has ls 5 [(0, .ref (ad 0)), (1, .int p1)] := hl
  unfold fC_doTimer at hf
  refine lv_aload_n X.1 X.2.1 dX5_doTimer_0 rfl (lv_at hl 0 rfl) ?_
  refine gtC_0_8 X w dX5_doTimer_1 ?_
  refine lv_iload_n X.1 X.2.1 dX5_doTimer_4 rfl (lv_at hl 1 rfl) ?_
  obtain ⟨r2, e1, hf⟩ := px_bq_e hf
  refine px_cI (As := [.int p1]) (rest := []) X hml hl w (cC_Timers_find l D cs ad e1) lk_5_265 (by decide) (rcC_43 X.2.2.2.2 w) rfl (Nat.le_of_ble_eq_true rfl) dX5_doTimer_5 (fun H locs w => ?_)
  refine lv_istore_n (lv' := [(2, .int r2), (0, .ref (ad 0)), (1, .int p1)]) X.1 X.2.1 dX5_doTimer_8 rfl hl (by decide) rfl (fun ls hl => ?_)
  refine lv_iload_n X.1 X.2.1 dX5_doTimer_9 rfl (lv_at hl 0 rfl) ?_
  refine lv_iconst (v := (-1 : Int32)) X.1 X.2.1 dX5_doTimer_10 (by decide) ?_
  refine lv_icmp_ne (tgt := 15) X.1 X.2.1 dX5_doTimer_11 (by decide) (fun c3 => ?_) (fun c3 => ?_)
  · have hf := px_in c3 hf
    refine lv_aload_n X.1 X.2.1 dX5_doTimer_15 rfl (lv_at hl 1 rfl) ?_
    refine gtC_0_8 X w dX5_doTimer_16 ?_
    refine lv_iload_n X.1 X.2.1 dX5_doTimer_19 rfl (lv_at hl 0 rfl) ?_
    obtain ⟨r5, e4, hf⟩ := px_bq_e hf
    refine px_cI (As := [.int r2]) (rest := []) X hml hl w (cC_Timers_functionAt l D cs ad e4) lk_5_271 (by decide) (rcC_43 X.2.2.2.2 w) rfl (Nat.le_of_ble_eq_true rfl) dX5_doTimer_20 (fun H locs w => ?_)
    refine lv_istore_n (lv' := [(3, .int r5), (2, .int r2), (0, .ref (ad 0)), (1, .int p1)]) X.1 X.2.1 dX5_doTimer_23 rfl hl (by decide) rfl (fun ls hl => ?_)
    refine lv_aload_n X.1 X.2.1 dX5_doTimer_24 rfl (lv_at hl 2 rfl) ?_
    refine gtC_0_8 X w dX5_doTimer_25 ?_
    refine lv_iload_n X.1 X.2.1 dX5_doTimer_28 rfl (lv_at hl 1 rfl) ?_
    obtain ⟨r7, e6, hf⟩ := px_bq_e hf
    refine px_cI (As := [.int r2]) (rest := []) X hml hl w (cC_Timers_argumentAt l D cs ad e6) lk_5_274 (by decide) (rcC_43 X.2.2.2.2 w) rfl (Nat.le_of_ble_eq_true rfl) dX5_doTimer_29 (fun H locs w => ?_)
    refine lv_istore (lv' := [(4, .int r7), (3, .int r5), (2, .int r2), (0, .ref (ad 0)), (1, .int p1)]) X.1 X.2.1 dX5_doTimer_32 hl (by decide) rfl (fun ls hl => ?_)
    refine lv_aload_n X.1 X.2.1 dX5_doTimer_34 rfl (lv_at hl 3 rfl) ?_
    refine lv_aload_n X.1 X.2.1 dX5_doTimer_35 rfl (lv_at hl 3 rfl) ?_
    refine gtC_0_8 X w dX5_doTimer_36 ?_
    refine lv_iload_n X.1 X.2.1 dX5_doTimer_39 rfl (lv_at hl 2 rfl) ?_
    obtain ⟨r9, e8, hf⟩ := px_bq_e hf
    refine px_cI (As := [.int r2]) (rest := [.ref (ad 0)]) X hml hl w (cC_Timers_levelAt l D cs ad e8) lk_5_277 (by decide) (rcC_43 X.2.2.2.2 w) rfl (Nat.le_of_ble_eq_true rfl) dX5_doTimer_40 (fun H locs w => ?_)
    refine ptC_0_14 X w dX5_doTimer_43 (fun H locs w => ?_)
    obtain ⟨M10, eM10, hf⟩ := px_bn_e hf
    rw [← eM10] at w
    refine lv_aload_n X.1 X.2.1 dX5_doTimer_46 rfl (lv_at hl 3 rfl) ?_
    refine gtC_0_8 X w dX5_doTimer_47 ?_
    refine lv_iload_n X.1 X.2.1 dX5_doTimer_50 rfl (lv_at hl 2 rfl) ?_
    obtain ⟨r12, e11, hf⟩ := px_bq_e hf
    refine px_cI (As := [.int r2]) (rest := []) X hml hl w (cC_Timers_repeatsAt l D cs ad e11) lk_5_280 (by decide) (rcC_43 X.2.2.2.2 w) rfl (Nat.le_of_ble_eq_true rfl) dX5_doTimer_51 (fun H locs w => ?_)
    refine lv_if_ne (tgt := 65) X.1 X.2.1 dX5_doTimer_54 (by decide) (fun c13 => ?_) (fun c13 => ?_)
    · have hf := px_in c13 hf
      refine lv_aload_n X.1 X.2.1 dX5_doTimer_65 rfl (lv_at hl 3 rfl) ?_
      refine lv_iload_n X.1 X.2.1 dX5_doTimer_66 rfl (lv_at hl 1 rfl) ?_
      refine lv_iload X.1 X.2.1 dX5_doTimer_67 (lv_at hl 0 rfl) ?_
      refine lv_iconst (v := (1 : Int32)) X.1 X.2.1 dX5_doTimer_69 (by decide) ?_
      obtain ⟨M15, e14, hf⟩ := px_bq_e hf
      refine px_cV (As := [.int r5, .int r7, .int (1 : Int32)]) (rest := []) X hml hl w (cC_run l D cs ad e14) lk_5_225 (by decide) (rcC_0 X.2.2.2.2 w) rfl (Nat.le_of_ble_eq_true rfl) dX5_doTimer_70 (fun H locs w => ?_)
      refine lv_aload_n X.1 X.2.1 dX5_doTimer_73 rfl (lv_at hl 3 rfl) ?_
      obtain ⟨M17, e16, hf⟩ := px_bq_e hf
      refine px_cV (As := []) (rest := []) X hml hl w (cC_reportFailure l D cs ad e16) lk_5_228 (by decide) (rcC_0 X.2.2.2.2 w) rfl (Nat.le_of_ble_eq_true rfl) dX5_doTimer_74 (fun H locs w => ?_)
      refine lv_aload_n X.1 X.2.1 dX5_doTimer_77 rfl (lv_at hl 3 rfl) ?_
      refine lv_iconst (v := (0 : Int32)) X.1 X.2.1 dX5_doTimer_78 (by decide) ?_
      refine ptC_0_14 X w dX5_doTimer_79 (fun H locs w => ?_)
      obtain ⟨M18, eM18, hf⟩ := px_bn_e hf
      rw [← eM18] at w
      refine lv_aload_n X.1 X.2.1 dX5_doTimer_82 rfl (lv_at hl 3 rfl) ?_
      refine gtC_0_8 X w dX5_doTimer_83 ?_
      refine lv_iload_n X.1 X.2.1 dX5_doTimer_86 rfl (lv_at hl 4 rfl) ?_
      refine lv_aload_n X.1 X.2.1 dX5_doTimer_87 rfl (lv_at hl 3 rfl) ?_
      refine gtC_0_10 X w dX5_doTimer_88 ?_
      obtain ⟨M20, e19, hf⟩ := px_bq_e hf
      refine px_cV (As := [.int p1, .int (M18 0 10)]) (rest := []) X hml hl w (cC_Timers_restart l D cs ad e19) lk_5_286 (by decide) (rcC_43 X.2.2.2.2 w) rfl (Nat.le_of_ble_eq_true rfl) dX5_doTimer_91 (fun H locs w => ?_)
      cases hf
      exact px_retV X hr hlk w dX5_doTimer_94
    · have hf := px_ip c13 hf
      refine lv_aload_n X.1 X.2.1 dX5_doTimer_57 rfl (lv_at hl 3 rfl) ?_
      refine gtC_0_8 X w dX5_doTimer_58 ?_
      refine lv_iload_n X.1 X.2.1 dX5_doTimer_61 rfl (lv_at hl 4 rfl) ?_
      obtain ⟨M22, e21, hf⟩ := px_bq_e hf
      refine px_cV (As := [.int p1]) (rest := []) X hml hl w (cC_Timers_remove l D cs ad e21) lk_5_283 (by decide) (rcC_43 X.2.2.2.2 w) rfl (Nat.le_of_ble_eq_true rfl) dX5_doTimer_62 (fun H locs w => ?_)
      refine lv_aload_n X.1 X.2.1 dX5_doTimer_65 rfl (lv_at hl 3 rfl) ?_
      refine lv_iload_n X.1 X.2.1 dX5_doTimer_66 rfl (lv_at hl 1 rfl) ?_
      refine lv_iload X.1 X.2.1 dX5_doTimer_67 (lv_at hl 0 rfl) ?_
      refine lv_iconst (v := (1 : Int32)) X.1 X.2.1 dX5_doTimer_69 (by decide) ?_
      obtain ⟨M24, e23, hf⟩ := px_bq_e hf
      refine px_cV (As := [.int r5, .int r7, .int (1 : Int32)]) (rest := []) X hml hl w (cC_run l D cs ad e23) lk_5_225 (by decide) (rcC_0 X.2.2.2.2 w) rfl (Nat.le_of_ble_eq_true rfl) dX5_doTimer_70 (fun H locs w => ?_)
      refine lv_aload_n X.1 X.2.1 dX5_doTimer_73 rfl (lv_at hl 3 rfl) ?_
      obtain ⟨M26, e25, hf⟩ := px_bq_e hf
      refine px_cV (As := []) (rest := []) X hml hl w (cC_reportFailure l D cs ad e25) lk_5_228 (by decide) (rcC_0 X.2.2.2.2 w) rfl (Nat.le_of_ble_eq_true rfl) dX5_doTimer_74 (fun H locs w => ?_)
      refine lv_aload_n X.1 X.2.1 dX5_doTimer_77 rfl (lv_at hl 3 rfl) ?_
      refine lv_iconst (v := (0 : Int32)) X.1 X.2.1 dX5_doTimer_78 (by decide) ?_
      refine ptC_0_14 X w dX5_doTimer_79 (fun H locs w => ?_)
      obtain ⟨M27, eM27, hf⟩ := px_bn_e hf
      rw [← eM27] at w
      refine lv_aload_n X.1 X.2.1 dX5_doTimer_82 rfl (lv_at hl 3 rfl) ?_
      refine gtC_0_8 X w dX5_doTimer_83 ?_
      refine lv_iload_n X.1 X.2.1 dX5_doTimer_86 rfl (lv_at hl 4 rfl) ?_
      refine lv_aload_n X.1 X.2.1 dX5_doTimer_87 rfl (lv_at hl 3 rfl) ?_
      refine gtC_0_10 X w dX5_doTimer_88 ?_
      obtain ⟨M29, e28, hf⟩ := px_bq_e hf
      refine px_cV (As := [.int p1, .int (M27 0 10)]) (rest := []) X hml hl w (cC_Timers_restart l D cs ad e28) lk_5_286 (by decide) (rcC_43 X.2.2.2.2 w) rfl (Nat.le_of_ble_eq_true rfl) dX5_doTimer_91 (fun H locs w => ?_)
      cases hf
      exact px_retV X hr hlk w dX5_doTimer_94
  · have hf := px_ip c3 hf
    cases hf
    exact px_retV X hr hlk w dX5_doTimer_14
theorem lk_5_262 : px_Lk RX5 262 yX5_sourceOfNextTask cX5_sourceOfNextTask 2 (some .int) 0 := ⟨px_tb (by decide +kernel) (by decide +kernel), px_tb (by decide +kernel) (by decide +kernel), px_tb (by decide +kernel) (by decide +kernel), px_tb (by decide +kernel) (by decide +kernel), px_tb (by decide +kernel) (by decide +kernel), by decide +kernel, by decide⟩
theorem lk_5_268 : px_Lk RX5 268 yX5_doTimer cX5_doTimer 5 none 1 := ⟨px_tb (by decide +kernel) (by decide +kernel), px_tb (by decide +kernel) (by decide +kernel), px_tb (by decide +kernel) (by decide +kernel), px_tb (by decide +kernel) (by decide +kernel), px_tb (by decide +kernel) (by decide +kernel), by decide +kernel, by decide⟩
def fC_doTask (M : px_M) : Option (Int32 × px_M) := px_bq (fC_sourceOfNextTask M) (fun r2 => (if r2 = (-1 : Int32) then some ((1 : Int32), M) else (if r2 = 0 then px_bq (fC_Line_subject_8 M) (fun r6 => px_bq (fC_Line_number_8 M) (fun r8 => px_bq (fC_Line_kind_8 M) (fun r10 => (if r10 = (1 : Int32) then px_bq (fC_Timers_find M r6) (fun r20 => (if r20 = (-1 : Int32) then px_bq (fC_Line_drop_8 M) (fun M23 => px_bq (fC_doTimer M23 r6) (fun M25 => some ((1 : Int32), M25))) else (if (M 0 12) < (50 : Int32) then px_bq (fC_Line_drop_8 M) (fun M28 => px_bq (fC_doTimer M28 r6) (fun M30 => some ((1 : Int32), M30))) else some ((0 : Int32), M)))) else (if (M 0 12) < (50 : Int32) then px_bq (fC_Line_drop_8 M) (fun M14 => px_bq (fC_run M14 r6 r8 (1 : Int32)) (fun M16 => px_bq (fC_reportFailure M16) (fun M18 => some ((1 : Int32), M18)))) else some ((0 : Int32), M)))))) else (if r2 = 1 then px_bq (fC_Line_subject_12 M) (fun r33 => px_bq (fC_Line_number_12 M) (fun r35 => px_bq (fC_Line_kind_12 M) (fun r37 => (if r37 = (1 : Int32) then px_bq (fC_Timers_find M r33) (fun r47 => (if r47 = (-1 : Int32) then px_bq (fC_Line_drop_12 M) (fun M50 => px_bq (fC_doTimer M50 r33) (fun M52 => some ((1 : Int32), M52))) else (if (M 0 12) < (50 : Int32) then px_bq (fC_Line_drop_12 M) (fun M55 => px_bq (fC_doTimer M55 r33) (fun M57 => some ((1 : Int32), M57))) else some ((0 : Int32), M)))) else (if (M 0 12) < (50 : Int32) then px_bq (fC_Line_drop_12 M) (fun M41 => px_bq (fC_run M41 r33 r35 (1 : Int32)) (fun M43 => px_bq (fC_reportFailure M43) (fun M45 => some ((1 : Int32), M45)))) else some ((0 : Int32), M)))))) else (if r2 = 2 then px_bq (fC_Line_subject_16 M) (fun r60 => px_bq (fC_Line_number_16 M) (fun r62 => px_bq (fC_Line_kind_16 M) (fun r64 => (if r64 = (1 : Int32) then px_bq (fC_Timers_find M r60) (fun r74 => (if r74 = (-1 : Int32) then px_bq (fC_Line_drop_16 M) (fun M77 => px_bq (fC_doTimer M77 r60) (fun M79 => some ((1 : Int32), M79))) else (if (M 0 12) < (50 : Int32) then px_bq (fC_Line_drop_16 M) (fun M82 => px_bq (fC_doTimer M82 r60) (fun M84 => some ((1 : Int32), M84))) else some ((0 : Int32), M)))) else (if (M 0 12) < (50 : Int32) then px_bq (fC_Line_drop_16 M) (fun M68 => px_bq (fC_run M68 r60 r62 (1 : Int32)) (fun M70 => px_bq (fC_reportFailure M70) (fun M72 => some ((1 : Int32), M72)))) else some ((0 : Int32), M)))))) else none)))))
set_option maxHeartbeats 4000000 in
set_option maxRecDepth 100000 in
theorem cC_doTask (l : Launch) (D : va_G) (cs : Nat → ClassId) (ad : Nat → Nat) {M : px_M} {r : Int32} {M' : px_M} (hf : fC_doTask M = some (r, M')) : px_mI l D (tyC cs) (wC cs ad) yX5_doTask cX5_doTask 7 (some .boolean) 29 [.ref (ad 0)] M r M' := by
  refine px_ofI (by decide +kernel) (Nat.le_of_ble_eq_true rfl) ?_
  intro p e s m below meth c A ls X hr hlk hml w hl
  have hl : lv_has ls 7 [(0, .ref (ad 0))] := hl
  unfold fC_doTask at hf
  refine lv_aload_n X.1 X.2.1 dX5_doTask_0 rfl (lv_at hl 0 rfl) ?_
  obtain ⟨r2, e1, hf⟩ := px_bq_e hf
  refine px_cI (As := []) (rest := []) X hml hl w (cC_sourceOfNextTask l D cs ad e1) lk_5_262 (by decide) (rcC_0 X.2.2.2.2 w) rfl (Nat.le_of_ble_eq_true rfl) dX5_doTask_1 (fun H locs w => ?_)
  refine lv_istore_n (lv' := [(1, .int r2), (0, .ref (ad 0))]) X.1 X.2.1 dX5_doTask_4 rfl hl (by decide) rfl (fun ls hl => ?_)
  refine lv_iload_n X.1 X.2.1 dX5_doTask_5 rfl (lv_at hl 0 rfl) ?_
  refine lv_iconst (v := (-1 : Int32)) X.1 X.2.1 dX5_doTask_6 (by decide) ?_
  refine lv_icmp_ne (tgt := 12) X.1 X.2.1 dX5_doTask_7 (by decide) (fun c3 => ?_) (fun c3 => ?_)
  · have hf := px_in c3 hf
    refine lv_aload_n X.1 X.2.1 dX5_doTask_12 rfl (lv_at hl 1 rfl) ?_
    refine gtC_0_2 X w dX5_doTask_13 ?_
    refine lv_iload_n X.1 X.2.1 dX5_doTask_16 rfl (lv_at hl 0 rfl) ?_
    by_cases c4 : r2 = 0
    · have hf := px_ip c4 hf
      refine alC_7_0 X w c4 dX5_doTask_17 ?_
      refine lv_astore_n (lv' := [(2, .ref (ad 8)), (1, .int r2), (0, .ref (ad 0))]) X.1 X.2.1 dX5_doTask_18 rfl hl (by decide) rfl (fun ls hl => ?_)
      refine lv_aload_n X.1 X.2.1 dX5_doTask_19 rfl (lv_at hl 0 rfl) ?_
      obtain ⟨r6, e5, hf⟩ := px_bq_e hf
      refine px_cI (As := []) (rest := []) X hml hl w (cC_Line_subject_8 l D cs ad e5) lk_5_216 (by decide) (rcC_8 X.2.2.2.2 w) rfl (Nat.le_of_ble_eq_true rfl) dX5_doTask_20 (fun H locs w => ?_)
      refine lv_istore_n (lv' := [(3, .int r6), (2, .ref (ad 8)), (1, .int r2), (0, .ref (ad 0))]) X.1 X.2.1 dX5_doTask_23 rfl hl (by decide) rfl (fun ls hl => ?_)
      refine lv_aload_n X.1 X.2.1 dX5_doTask_24 rfl (lv_at hl 1 rfl) ?_
      obtain ⟨r8, e7, hf⟩ := px_bq_e hf
      refine px_cI (As := []) (rest := []) X hml hl w (cC_Line_number_8 l D cs ad e7) lk_5_219 (by decide) (rcC_8 X.2.2.2.2 w) rfl (Nat.le_of_ble_eq_true rfl) dX5_doTask_25 (fun H locs w => ?_)
      refine lv_istore (lv' := [(4, .int r8), (3, .int r6), (2, .ref (ad 8)), (1, .int r2), (0, .ref (ad 0))]) X.1 X.2.1 dX5_doTask_28 hl (by decide) rfl (fun ls hl => ?_)
      refine lv_aload_n X.1 X.2.1 dX5_doTask_30 rfl (lv_at hl 2 rfl) ?_
      obtain ⟨r10, e9, hf⟩ := px_bq_e hf
      refine px_cI (As := []) (rest := []) X hml hl w (cC_Line_kind_8 l D cs ad e9) lk_5_213 (by decide) (rcC_8 X.2.2.2.2 w) rfl (Nat.le_of_ble_eq_true rfl) dX5_doTask_31 (fun H locs w => ?_)
      refine lv_iconst (v := (1 : Int32)) X.1 X.2.1 dX5_doTask_34 (by decide) ?_
      refine lv_icmp_ne (tgt := 42) X.1 X.2.1 dX5_doTask_35 (by decide) (fun c11 => ?_) (fun c11 => ?_)
      · have hf := px_in c11 hf
        refine lv_iconst (v := (0 : Int32)) X.1 X.2.1 dX5_doTask_42 (by decide) ?_
        refine lv_istore (lv' := [(5, .int (0 : Int32)), (4, .int r8), (3, .int r6), (2, .ref (ad 8)), (1, .int r2), (0, .ref (ad 0))]) X.1 X.2.1 dX5_doTask_43 hl (by decide) rfl (fun ls hl => ?_)
        refine lv_iload X.1 X.2.1 dX5_doTask_45 (lv_at hl 0 rfl) ?_
        refine lv_if_eq (tgt := 62) X.1 X.2.1 dX5_doTask_47 (by decide) (fun _ => ?_) (fun c => absurd c (by decide))
        refine lv_iconst (v := (1 : Int32)) X.1 X.2.1 dX5_doTask_62 (by decide) ?_
        refine lv_goto (tgt := 67) X.1 X.2.1 dX5_doTask_63 (by decide) ?_
        refine lv_istore (lv' := [(6, .int (1 : Int32)), (5, .int (0 : Int32)), (4, .int r8), (3, .int r6), (2, .ref (ad 8)), (1, .int r2), (0, .ref (ad 0))]) X.1 X.2.1 dX5_doTask_67 hl (by decide) rfl (fun ls hl => ?_)
        refine lv_iload X.1 X.2.1 dX5_doTask_69 (lv_at hl 0 rfl) ?_
        refine lv_if_eq (tgt := 85) X.1 X.2.1 dX5_doTask_71 (by decide) (fun c => absurd c (by decide)) (fun _ => ?_)
        refine lv_aload_n X.1 X.2.1 dX5_doTask_74 rfl (lv_at hl 6 rfl) ?_
        refine gtC_0_12 X w dX5_doTask_75 ?_
        refine lv_bipush (v := (50 : Int32)) X.1 X.2.1 dX5_doTask_78 (by decide) ?_
        refine lv_icmp_lt (tgt := 85) X.1 X.2.1 dX5_doTask_80 (by decide) (fun c12 => ?_) (fun c12 => ?_)
        · have hf := px_ip c12 hf
          refine lv_aload_n X.1 X.2.1 dX5_doTask_85 rfl (lv_at hl 4 rfl) ?_
          obtain ⟨M14, e13, hf⟩ := px_bq_e hf
          refine px_cV (As := []) (rest := []) X hml hl w (cC_Line_drop_8 l D cs ad e13) lk_5_222 (by decide) (rcC_8 X.2.2.2.2 w) rfl (Nat.le_of_ble_eq_true rfl) dX5_doTask_86 (fun H locs w => ?_)
          refine lv_iload X.1 X.2.1 dX5_doTask_89 (lv_at hl 1 rfl) ?_
          refine lv_if_eq (tgt := 102) X.1 X.2.1 dX5_doTask_91 (by decide) (fun _ => ?_) (fun c => absurd c (by decide))
          refine lv_aload_n X.1 X.2.1 dX5_doTask_102 rfl (lv_at hl 6 rfl) ?_
          refine lv_iload_n X.1 X.2.1 dX5_doTask_103 rfl (lv_at hl 3 rfl) ?_
          refine lv_iload X.1 X.2.1 dX5_doTask_104 (lv_at hl 2 rfl) ?_
          refine lv_iconst (v := (1 : Int32)) X.1 X.2.1 dX5_doTask_106 (by decide) ?_
          obtain ⟨M16, e15, hf⟩ := px_bq_e hf
          refine px_cV (As := [.int r6, .int r8, .int (1 : Int32)]) (rest := []) X hml hl w (cC_run l D cs ad e15) lk_5_225 (by decide) (rcC_0 X.2.2.2.2 w) rfl (Nat.le_of_ble_eq_true rfl) dX5_doTask_107 (fun H locs w => ?_)
          refine lv_aload_n X.1 X.2.1 dX5_doTask_110 rfl (lv_at hl 6 rfl) ?_
          obtain ⟨M18, e17, hf⟩ := px_bq_e hf
          refine px_cV (As := []) (rest := []) X hml hl w (cC_reportFailure l D cs ad e17) lk_5_228 (by decide) (rcC_0 X.2.2.2.2 w) rfl (Nat.le_of_ble_eq_true rfl) dX5_doTask_111 (fun H locs w => ?_)
          refine lv_iconst (v := (1 : Int32)) X.1 X.2.1 dX5_doTask_114 (by decide) ?_
          cases hf
          exact px_retZ X hr hlk narrow_b1 w dX5_doTask_115
        · have hf := px_in c12 hf
          refine lv_iconst (v := (0 : Int32)) X.1 X.2.1 dX5_doTask_83 (by decide) ?_
          cases hf
          exact px_retZ X hr hlk narrow_b0 w dX5_doTask_84
      · have hf := px_ip c11 hf
        refine lv_iconst (v := (1 : Int32)) X.1 X.2.1 dX5_doTask_38 (by decide) ?_
        refine lv_goto (tgt := 43) X.1 X.2.1 dX5_doTask_39 (by decide) ?_
        refine lv_istore (lv' := [(5, .int (1 : Int32)), (4, .int r8), (3, .int r6), (2, .ref (ad 8)), (1, .int r2), (0, .ref (ad 0))]) X.1 X.2.1 dX5_doTask_43 hl (by decide) rfl (fun ls hl => ?_)
        refine lv_iload X.1 X.2.1 dX5_doTask_45 (lv_at hl 0 rfl) ?_
        refine lv_if_eq (tgt := 62) X.1 X.2.1 dX5_doTask_47 (by decide) (fun c => absurd c (by decide)) (fun _ => ?_)
        refine lv_aload_n X.1 X.2.1 dX5_doTask_50 rfl (lv_at hl 5 rfl) ?_
        refine gtC_0_8 X w dX5_doTask_51 ?_
        refine lv_iload_n X.1 X.2.1 dX5_doTask_54 rfl (lv_at hl 2 rfl) ?_
        obtain ⟨r20, e19, hf⟩ := px_bq_e hf
        refine px_cI (As := [.int r6]) (rest := []) X hml hl w (cC_Timers_find l D cs ad e19) lk_5_265 (by decide) (rcC_43 X.2.2.2.2 w) rfl (Nat.le_of_ble_eq_true rfl) dX5_doTask_55 (fun H locs w => ?_)
        refine lv_iconst (v := (-1 : Int32)) X.1 X.2.1 dX5_doTask_58 (by decide) ?_
        refine lv_icmp_eq (tgt := 66) X.1 X.2.1 dX5_doTask_59 (by decide) (fun c21 => ?_) (fun c21 => ?_)
        · have hf := px_ip c21 hf
          refine lv_iconst (v := (0 : Int32)) X.1 X.2.1 dX5_doTask_66 (by decide) ?_
          refine lv_istore (lv' := [(6, .int (0 : Int32)), (5, .int (1 : Int32)), (4, .int r8), (3, .int r6), (2, .ref (ad 8)), (1, .int r2), (0, .ref (ad 0))]) X.1 X.2.1 dX5_doTask_67 hl (by decide) rfl (fun ls hl => ?_)
          refine lv_iload X.1 X.2.1 dX5_doTask_69 (lv_at hl 0 rfl) ?_
          refine lv_if_eq (tgt := 85) X.1 X.2.1 dX5_doTask_71 (by decide) (fun _ => ?_) (fun c => absurd c (by decide))
          refine lv_aload_n X.1 X.2.1 dX5_doTask_85 rfl (lv_at hl 4 rfl) ?_
          obtain ⟨M23, e22, hf⟩ := px_bq_e hf
          refine px_cV (As := []) (rest := []) X hml hl w (cC_Line_drop_8 l D cs ad e22) lk_5_222 (by decide) (rcC_8 X.2.2.2.2 w) rfl (Nat.le_of_ble_eq_true rfl) dX5_doTask_86 (fun H locs w => ?_)
          refine lv_iload X.1 X.2.1 dX5_doTask_89 (lv_at hl 1 rfl) ?_
          refine lv_if_eq (tgt := 102) X.1 X.2.1 dX5_doTask_91 (by decide) (fun c => absurd c (by decide)) (fun _ => ?_)
          refine lv_aload_n X.1 X.2.1 dX5_doTask_94 rfl (lv_at hl 6 rfl) ?_
          refine lv_iload_n X.1 X.2.1 dX5_doTask_95 rfl (lv_at hl 3 rfl) ?_
          obtain ⟨M25, e24, hf⟩ := px_bq_e hf
          refine px_cV (As := [.int r6]) (rest := []) X hml hl w (cC_doTimer l D cs ad e24) lk_5_268 (by decide) (rcC_0 X.2.2.2.2 w) rfl (Nat.le_of_ble_eq_true rfl) dX5_doTask_96 (fun H locs w => ?_)
          refine lv_goto (tgt := 114) X.1 X.2.1 dX5_doTask_99 (by decide) ?_
          refine lv_iconst (v := (1 : Int32)) X.1 X.2.1 dX5_doTask_114 (by decide) ?_
          cases hf
          exact px_retZ X hr hlk narrow_b1 w dX5_doTask_115
        · have hf := px_in c21 hf
          refine lv_iconst (v := (1 : Int32)) X.1 X.2.1 dX5_doTask_62 (by decide) ?_
          refine lv_goto (tgt := 67) X.1 X.2.1 dX5_doTask_63 (by decide) ?_
          refine lv_istore (lv' := [(6, .int (1 : Int32)), (5, .int (1 : Int32)), (4, .int r8), (3, .int r6), (2, .ref (ad 8)), (1, .int r2), (0, .ref (ad 0))]) X.1 X.2.1 dX5_doTask_67 hl (by decide) rfl (fun ls hl => ?_)
          refine lv_iload X.1 X.2.1 dX5_doTask_69 (lv_at hl 0 rfl) ?_
          refine lv_if_eq (tgt := 85) X.1 X.2.1 dX5_doTask_71 (by decide) (fun c => absurd c (by decide)) (fun _ => ?_)
          refine lv_aload_n X.1 X.2.1 dX5_doTask_74 rfl (lv_at hl 6 rfl) ?_
          refine gtC_0_12 X w dX5_doTask_75 ?_
          refine lv_bipush (v := (50 : Int32)) X.1 X.2.1 dX5_doTask_78 (by decide) ?_
          refine lv_icmp_lt (tgt := 85) X.1 X.2.1 dX5_doTask_80 (by decide) (fun c26 => ?_) (fun c26 => ?_)
          · have hf := px_ip c26 hf
            refine lv_aload_n X.1 X.2.1 dX5_doTask_85 rfl (lv_at hl 4 rfl) ?_
            obtain ⟨M28, e27, hf⟩ := px_bq_e hf
            refine px_cV (As := []) (rest := []) X hml hl w (cC_Line_drop_8 l D cs ad e27) lk_5_222 (by decide) (rcC_8 X.2.2.2.2 w) rfl (Nat.le_of_ble_eq_true rfl) dX5_doTask_86 (fun H locs w => ?_)
            refine lv_iload X.1 X.2.1 dX5_doTask_89 (lv_at hl 1 rfl) ?_
            refine lv_if_eq (tgt := 102) X.1 X.2.1 dX5_doTask_91 (by decide) (fun c => absurd c (by decide)) (fun _ => ?_)
            refine lv_aload_n X.1 X.2.1 dX5_doTask_94 rfl (lv_at hl 6 rfl) ?_
            refine lv_iload_n X.1 X.2.1 dX5_doTask_95 rfl (lv_at hl 3 rfl) ?_
            obtain ⟨M30, e29, hf⟩ := px_bq_e hf
            refine px_cV (As := [.int r6]) (rest := []) X hml hl w (cC_doTimer l D cs ad e29) lk_5_268 (by decide) (rcC_0 X.2.2.2.2 w) rfl (Nat.le_of_ble_eq_true rfl) dX5_doTask_96 (fun H locs w => ?_)
            refine lv_goto (tgt := 114) X.1 X.2.1 dX5_doTask_99 (by decide) ?_
            refine lv_iconst (v := (1 : Int32)) X.1 X.2.1 dX5_doTask_114 (by decide) ?_
            cases hf
            exact px_retZ X hr hlk narrow_b1 w dX5_doTask_115
          · have hf := px_in c26 hf
            refine lv_iconst (v := (0 : Int32)) X.1 X.2.1 dX5_doTask_83 (by decide) ?_
            cases hf
            exact px_retZ X hr hlk narrow_b0 w dX5_doTask_84
    · have hf := px_in c4 hf
      by_cases c31 : r2 = 1
      · have hf := px_ip c31 hf
        refine alC_7_1 X w c31 dX5_doTask_17 ?_
        refine lv_astore_n (lv' := [(2, .ref (ad 12)), (1, .int r2), (0, .ref (ad 0))]) X.1 X.2.1 dX5_doTask_18 rfl hl (by decide) rfl (fun ls hl => ?_)
        refine lv_aload_n X.1 X.2.1 dX5_doTask_19 rfl (lv_at hl 0 rfl) ?_
        obtain ⟨r33, e32, hf⟩ := px_bq_e hf
        refine px_cI (As := []) (rest := []) X hml hl w (cC_Line_subject_12 l D cs ad e32) lk_5_216 (by decide) (rcC_12 X.2.2.2.2 w) rfl (Nat.le_of_ble_eq_true rfl) dX5_doTask_20 (fun H locs w => ?_)
        refine lv_istore_n (lv' := [(3, .int r33), (2, .ref (ad 12)), (1, .int r2), (0, .ref (ad 0))]) X.1 X.2.1 dX5_doTask_23 rfl hl (by decide) rfl (fun ls hl => ?_)
        refine lv_aload_n X.1 X.2.1 dX5_doTask_24 rfl (lv_at hl 1 rfl) ?_
        obtain ⟨r35, e34, hf⟩ := px_bq_e hf
        refine px_cI (As := []) (rest := []) X hml hl w (cC_Line_number_12 l D cs ad e34) lk_5_219 (by decide) (rcC_12 X.2.2.2.2 w) rfl (Nat.le_of_ble_eq_true rfl) dX5_doTask_25 (fun H locs w => ?_)
        refine lv_istore (lv' := [(4, .int r35), (3, .int r33), (2, .ref (ad 12)), (1, .int r2), (0, .ref (ad 0))]) X.1 X.2.1 dX5_doTask_28 hl (by decide) rfl (fun ls hl => ?_)
        refine lv_aload_n X.1 X.2.1 dX5_doTask_30 rfl (lv_at hl 2 rfl) ?_
        obtain ⟨r37, e36, hf⟩ := px_bq_e hf
        refine px_cI (As := []) (rest := []) X hml hl w (cC_Line_kind_12 l D cs ad e36) lk_5_213 (by decide) (rcC_12 X.2.2.2.2 w) rfl (Nat.le_of_ble_eq_true rfl) dX5_doTask_31 (fun H locs w => ?_)
        refine lv_iconst (v := (1 : Int32)) X.1 X.2.1 dX5_doTask_34 (by decide) ?_
        refine lv_icmp_ne (tgt := 42) X.1 X.2.1 dX5_doTask_35 (by decide) (fun c38 => ?_) (fun c38 => ?_)
        · have hf := px_in c38 hf
          refine lv_iconst (v := (0 : Int32)) X.1 X.2.1 dX5_doTask_42 (by decide) ?_
          refine lv_istore (lv' := [(5, .int (0 : Int32)), (4, .int r35), (3, .int r33), (2, .ref (ad 12)), (1, .int r2), (0, .ref (ad 0))]) X.1 X.2.1 dX5_doTask_43 hl (by decide) rfl (fun ls hl => ?_)
          refine lv_iload X.1 X.2.1 dX5_doTask_45 (lv_at hl 0 rfl) ?_
          refine lv_if_eq (tgt := 62) X.1 X.2.1 dX5_doTask_47 (by decide) (fun _ => ?_) (fun c => absurd c (by decide))
          refine lv_iconst (v := (1 : Int32)) X.1 X.2.1 dX5_doTask_62 (by decide) ?_
          refine lv_goto (tgt := 67) X.1 X.2.1 dX5_doTask_63 (by decide) ?_
          refine lv_istore (lv' := [(6, .int (1 : Int32)), (5, .int (0 : Int32)), (4, .int r35), (3, .int r33), (2, .ref (ad 12)), (1, .int r2), (0, .ref (ad 0))]) X.1 X.2.1 dX5_doTask_67 hl (by decide) rfl (fun ls hl => ?_)
          refine lv_iload X.1 X.2.1 dX5_doTask_69 (lv_at hl 0 rfl) ?_
          refine lv_if_eq (tgt := 85) X.1 X.2.1 dX5_doTask_71 (by decide) (fun c => absurd c (by decide)) (fun _ => ?_)
          refine lv_aload_n X.1 X.2.1 dX5_doTask_74 rfl (lv_at hl 6 rfl) ?_
          refine gtC_0_12 X w dX5_doTask_75 ?_
          refine lv_bipush (v := (50 : Int32)) X.1 X.2.1 dX5_doTask_78 (by decide) ?_
          refine lv_icmp_lt (tgt := 85) X.1 X.2.1 dX5_doTask_80 (by decide) (fun c39 => ?_) (fun c39 => ?_)
          · have hf := px_ip c39 hf
            refine lv_aload_n X.1 X.2.1 dX5_doTask_85 rfl (lv_at hl 4 rfl) ?_
            obtain ⟨M41, e40, hf⟩ := px_bq_e hf
            refine px_cV (As := []) (rest := []) X hml hl w (cC_Line_drop_12 l D cs ad e40) lk_5_222 (by decide) (rcC_12 X.2.2.2.2 w) rfl (Nat.le_of_ble_eq_true rfl) dX5_doTask_86 (fun H locs w => ?_)
            refine lv_iload X.1 X.2.1 dX5_doTask_89 (lv_at hl 1 rfl) ?_
            refine lv_if_eq (tgt := 102) X.1 X.2.1 dX5_doTask_91 (by decide) (fun _ => ?_) (fun c => absurd c (by decide))
            refine lv_aload_n X.1 X.2.1 dX5_doTask_102 rfl (lv_at hl 6 rfl) ?_
            refine lv_iload_n X.1 X.2.1 dX5_doTask_103 rfl (lv_at hl 3 rfl) ?_
            refine lv_iload X.1 X.2.1 dX5_doTask_104 (lv_at hl 2 rfl) ?_
            refine lv_iconst (v := (1 : Int32)) X.1 X.2.1 dX5_doTask_106 (by decide) ?_
            obtain ⟨M43, e42, hf⟩ := px_bq_e hf
            refine px_cV (As := [.int r33, .int r35, .int (1 : Int32)]) (rest := []) X hml hl w (cC_run l D cs ad e42) lk_5_225 (by decide) (rcC_0 X.2.2.2.2 w) rfl (Nat.le_of_ble_eq_true rfl) dX5_doTask_107 (fun H locs w => ?_)
            refine lv_aload_n X.1 X.2.1 dX5_doTask_110 rfl (lv_at hl 6 rfl) ?_
            obtain ⟨M45, e44, hf⟩ := px_bq_e hf
            refine px_cV (As := []) (rest := []) X hml hl w (cC_reportFailure l D cs ad e44) lk_5_228 (by decide) (rcC_0 X.2.2.2.2 w) rfl (Nat.le_of_ble_eq_true rfl) dX5_doTask_111 (fun H locs w => ?_)
            refine lv_iconst (v := (1 : Int32)) X.1 X.2.1 dX5_doTask_114 (by decide) ?_
            cases hf
            exact px_retZ X hr hlk narrow_b1 w dX5_doTask_115
          · have hf := px_in c39 hf
            refine lv_iconst (v := (0 : Int32)) X.1 X.2.1 dX5_doTask_83 (by decide) ?_
            cases hf
            exact px_retZ X hr hlk narrow_b0 w dX5_doTask_84
        · have hf := px_ip c38 hf
          refine lv_iconst (v := (1 : Int32)) X.1 X.2.1 dX5_doTask_38 (by decide) ?_
          refine lv_goto (tgt := 43) X.1 X.2.1 dX5_doTask_39 (by decide) ?_
          refine lv_istore (lv' := [(5, .int (1 : Int32)), (4, .int r35), (3, .int r33), (2, .ref (ad 12)), (1, .int r2), (0, .ref (ad 0))]) X.1 X.2.1 dX5_doTask_43 hl (by decide) rfl (fun ls hl => ?_)
          refine lv_iload X.1 X.2.1 dX5_doTask_45 (lv_at hl 0 rfl) ?_
          refine lv_if_eq (tgt := 62) X.1 X.2.1 dX5_doTask_47 (by decide) (fun c => absurd c (by decide)) (fun _ => ?_)
          refine lv_aload_n X.1 X.2.1 dX5_doTask_50 rfl (lv_at hl 5 rfl) ?_
          refine gtC_0_8 X w dX5_doTask_51 ?_
          refine lv_iload_n X.1 X.2.1 dX5_doTask_54 rfl (lv_at hl 2 rfl) ?_
          obtain ⟨r47, e46, hf⟩ := px_bq_e hf
          refine px_cI (As := [.int r33]) (rest := []) X hml hl w (cC_Timers_find l D cs ad e46) lk_5_265 (by decide) (rcC_43 X.2.2.2.2 w) rfl (Nat.le_of_ble_eq_true rfl) dX5_doTask_55 (fun H locs w => ?_)
          refine lv_iconst (v := (-1 : Int32)) X.1 X.2.1 dX5_doTask_58 (by decide) ?_
          refine lv_icmp_eq (tgt := 66) X.1 X.2.1 dX5_doTask_59 (by decide) (fun c48 => ?_) (fun c48 => ?_)
          · have hf := px_ip c48 hf
            refine lv_iconst (v := (0 : Int32)) X.1 X.2.1 dX5_doTask_66 (by decide) ?_
            refine lv_istore (lv' := [(6, .int (0 : Int32)), (5, .int (1 : Int32)), (4, .int r35), (3, .int r33), (2, .ref (ad 12)), (1, .int r2), (0, .ref (ad 0))]) X.1 X.2.1 dX5_doTask_67 hl (by decide) rfl (fun ls hl => ?_)
            refine lv_iload X.1 X.2.1 dX5_doTask_69 (lv_at hl 0 rfl) ?_
            refine lv_if_eq (tgt := 85) X.1 X.2.1 dX5_doTask_71 (by decide) (fun _ => ?_) (fun c => absurd c (by decide))
            refine lv_aload_n X.1 X.2.1 dX5_doTask_85 rfl (lv_at hl 4 rfl) ?_
            obtain ⟨M50, e49, hf⟩ := px_bq_e hf
            refine px_cV (As := []) (rest := []) X hml hl w (cC_Line_drop_12 l D cs ad e49) lk_5_222 (by decide) (rcC_12 X.2.2.2.2 w) rfl (Nat.le_of_ble_eq_true rfl) dX5_doTask_86 (fun H locs w => ?_)
            refine lv_iload X.1 X.2.1 dX5_doTask_89 (lv_at hl 1 rfl) ?_
            refine lv_if_eq (tgt := 102) X.1 X.2.1 dX5_doTask_91 (by decide) (fun c => absurd c (by decide)) (fun _ => ?_)
            refine lv_aload_n X.1 X.2.1 dX5_doTask_94 rfl (lv_at hl 6 rfl) ?_
            refine lv_iload_n X.1 X.2.1 dX5_doTask_95 rfl (lv_at hl 3 rfl) ?_
            obtain ⟨M52, e51, hf⟩ := px_bq_e hf
            refine px_cV (As := [.int r33]) (rest := []) X hml hl w (cC_doTimer l D cs ad e51) lk_5_268 (by decide) (rcC_0 X.2.2.2.2 w) rfl (Nat.le_of_ble_eq_true rfl) dX5_doTask_96 (fun H locs w => ?_)
            refine lv_goto (tgt := 114) X.1 X.2.1 dX5_doTask_99 (by decide) ?_
            refine lv_iconst (v := (1 : Int32)) X.1 X.2.1 dX5_doTask_114 (by decide) ?_
            cases hf
            exact px_retZ X hr hlk narrow_b1 w dX5_doTask_115
          · have hf := px_in c48 hf
            refine lv_iconst (v := (1 : Int32)) X.1 X.2.1 dX5_doTask_62 (by decide) ?_
            refine lv_goto (tgt := 67) X.1 X.2.1 dX5_doTask_63 (by decide) ?_
            refine lv_istore (lv' := [(6, .int (1 : Int32)), (5, .int (1 : Int32)), (4, .int r35), (3, .int r33), (2, .ref (ad 12)), (1, .int r2), (0, .ref (ad 0))]) X.1 X.2.1 dX5_doTask_67 hl (by decide) rfl (fun ls hl => ?_)
            refine lv_iload X.1 X.2.1 dX5_doTask_69 (lv_at hl 0 rfl) ?_
            refine lv_if_eq (tgt := 85) X.1 X.2.1 dX5_doTask_71 (by decide) (fun c => absurd c (by decide)) (fun _ => ?_)
            refine lv_aload_n X.1 X.2.1 dX5_doTask_74 rfl (lv_at hl 6 rfl) ?_
            refine gtC_0_12 X w dX5_doTask_75 ?_
            refine lv_bipush (v := (50 : Int32)) X.1 X.2.1 dX5_doTask_78 (by decide) ?_
            refine lv_icmp_lt (tgt := 85) X.1 X.2.1 dX5_doTask_80 (by decide) (fun c53 => ?_) (fun c53 => ?_)
            · have hf := px_ip c53 hf
              refine lv_aload_n X.1 X.2.1 dX5_doTask_85 rfl (lv_at hl 4 rfl) ?_
              obtain ⟨M55, e54, hf⟩ := px_bq_e hf
              refine px_cV (As := []) (rest := []) X hml hl w (cC_Line_drop_12 l D cs ad e54) lk_5_222 (by decide) (rcC_12 X.2.2.2.2 w) rfl (Nat.le_of_ble_eq_true rfl) dX5_doTask_86 (fun H locs w => ?_)
              refine lv_iload X.1 X.2.1 dX5_doTask_89 (lv_at hl 1 rfl) ?_
              refine lv_if_eq (tgt := 102) X.1 X.2.1 dX5_doTask_91 (by decide) (fun c => absurd c (by decide)) (fun _ => ?_)
              refine lv_aload_n X.1 X.2.1 dX5_doTask_94 rfl (lv_at hl 6 rfl) ?_
              refine lv_iload_n X.1 X.2.1 dX5_doTask_95 rfl (lv_at hl 3 rfl) ?_
              obtain ⟨M57, e56, hf⟩ := px_bq_e hf
              refine px_cV (As := [.int r33]) (rest := []) X hml hl w (cC_doTimer l D cs ad e56) lk_5_268 (by decide) (rcC_0 X.2.2.2.2 w) rfl (Nat.le_of_ble_eq_true rfl) dX5_doTask_96 (fun H locs w => ?_)
              refine lv_goto (tgt := 114) X.1 X.2.1 dX5_doTask_99 (by decide) ?_
              refine lv_iconst (v := (1 : Int32)) X.1 X.2.1 dX5_doTask_114 (by decide) ?_
              cases hf
              exact px_retZ X hr hlk narrow_b1 w dX5_doTask_115
            · have hf := px_in c53 hf
              refine lv_iconst (v := (0 : Int32)) X.1 X.2.1 dX5_doTask_83 (by decide) ?_
              cases hf
              exact px_retZ X hr hlk narrow_b0 w dX5_doTask_84
      · have hf := px_in c31 hf
        by_cases c58 : r2 = 2
        · have hf := px_ip c58 hf
          refine alC_7_2 X w c58 dX5_doTask_17 ?_
          refine lv_astore_n (lv' := [(2, .ref (ad 16)), (1, .int r2), (0, .ref (ad 0))]) X.1 X.2.1 dX5_doTask_18 rfl hl (by decide) rfl (fun ls hl => ?_)
          refine lv_aload_n X.1 X.2.1 dX5_doTask_19 rfl (lv_at hl 0 rfl) ?_
          obtain ⟨r60, e59, hf⟩ := px_bq_e hf
          refine px_cI (As := []) (rest := []) X hml hl w (cC_Line_subject_16 l D cs ad e59) lk_5_216 (by decide) (rcC_16 X.2.2.2.2 w) rfl (Nat.le_of_ble_eq_true rfl) dX5_doTask_20 (fun H locs w => ?_)
          refine lv_istore_n (lv' := [(3, .int r60), (2, .ref (ad 16)), (1, .int r2), (0, .ref (ad 0))]) X.1 X.2.1 dX5_doTask_23 rfl hl (by decide) rfl (fun ls hl => ?_)
          refine lv_aload_n X.1 X.2.1 dX5_doTask_24 rfl (lv_at hl 1 rfl) ?_
          obtain ⟨r62, e61, hf⟩ := px_bq_e hf
          refine px_cI (As := []) (rest := []) X hml hl w (cC_Line_number_16 l D cs ad e61) lk_5_219 (by decide) (rcC_16 X.2.2.2.2 w) rfl (Nat.le_of_ble_eq_true rfl) dX5_doTask_25 (fun H locs w => ?_)
          refine lv_istore (lv' := [(4, .int r62), (3, .int r60), (2, .ref (ad 16)), (1, .int r2), (0, .ref (ad 0))]) X.1 X.2.1 dX5_doTask_28 hl (by decide) rfl (fun ls hl => ?_)
          refine lv_aload_n X.1 X.2.1 dX5_doTask_30 rfl (lv_at hl 2 rfl) ?_
          obtain ⟨r64, e63, hf⟩ := px_bq_e hf
          refine px_cI (As := []) (rest := []) X hml hl w (cC_Line_kind_16 l D cs ad e63) lk_5_213 (by decide) (rcC_16 X.2.2.2.2 w) rfl (Nat.le_of_ble_eq_true rfl) dX5_doTask_31 (fun H locs w => ?_)
          refine lv_iconst (v := (1 : Int32)) X.1 X.2.1 dX5_doTask_34 (by decide) ?_
          refine lv_icmp_ne (tgt := 42) X.1 X.2.1 dX5_doTask_35 (by decide) (fun c65 => ?_) (fun c65 => ?_)
          · have hf := px_in c65 hf
            refine lv_iconst (v := (0 : Int32)) X.1 X.2.1 dX5_doTask_42 (by decide) ?_
            refine lv_istore (lv' := [(5, .int (0 : Int32)), (4, .int r62), (3, .int r60), (2, .ref (ad 16)), (1, .int r2), (0, .ref (ad 0))]) X.1 X.2.1 dX5_doTask_43 hl (by decide) rfl (fun ls hl => ?_)
            refine lv_iload X.1 X.2.1 dX5_doTask_45 (lv_at hl 0 rfl) ?_
            refine lv_if_eq (tgt := 62) X.1 X.2.1 dX5_doTask_47 (by decide) (fun _ => ?_) (fun c => absurd c (by decide))
            refine lv_iconst (v := (1 : Int32)) X.1 X.2.1 dX5_doTask_62 (by decide) ?_
            refine lv_goto (tgt := 67) X.1 X.2.1 dX5_doTask_63 (by decide) ?_
            refine lv_istore (lv' := [(6, .int (1 : Int32)), (5, .int (0 : Int32)), (4, .int r62), (3, .int r60), (2, .ref (ad 16)), (1, .int r2), (0, .ref (ad 0))]) X.1 X.2.1 dX5_doTask_67 hl (by decide) rfl (fun ls hl => ?_)
            refine lv_iload X.1 X.2.1 dX5_doTask_69 (lv_at hl 0 rfl) ?_
            refine lv_if_eq (tgt := 85) X.1 X.2.1 dX5_doTask_71 (by decide) (fun c => absurd c (by decide)) (fun _ => ?_)
            refine lv_aload_n X.1 X.2.1 dX5_doTask_74 rfl (lv_at hl 6 rfl) ?_
            refine gtC_0_12 X w dX5_doTask_75 ?_
            refine lv_bipush (v := (50 : Int32)) X.1 X.2.1 dX5_doTask_78 (by decide) ?_
            refine lv_icmp_lt (tgt := 85) X.1 X.2.1 dX5_doTask_80 (by decide) (fun c66 => ?_) (fun c66 => ?_)
            · have hf := px_ip c66 hf
              refine lv_aload_n X.1 X.2.1 dX5_doTask_85 rfl (lv_at hl 4 rfl) ?_
              obtain ⟨M68, e67, hf⟩ := px_bq_e hf
              refine px_cV (As := []) (rest := []) X hml hl w (cC_Line_drop_16 l D cs ad e67) lk_5_222 (by decide) (rcC_16 X.2.2.2.2 w) rfl (Nat.le_of_ble_eq_true rfl) dX5_doTask_86 (fun H locs w => ?_)
              refine lv_iload X.1 X.2.1 dX5_doTask_89 (lv_at hl 1 rfl) ?_
              refine lv_if_eq (tgt := 102) X.1 X.2.1 dX5_doTask_91 (by decide) (fun _ => ?_) (fun c => absurd c (by decide))
              refine lv_aload_n X.1 X.2.1 dX5_doTask_102 rfl (lv_at hl 6 rfl) ?_
              refine lv_iload_n X.1 X.2.1 dX5_doTask_103 rfl (lv_at hl 3 rfl) ?_
              refine lv_iload X.1 X.2.1 dX5_doTask_104 (lv_at hl 2 rfl) ?_
              refine lv_iconst (v := (1 : Int32)) X.1 X.2.1 dX5_doTask_106 (by decide) ?_
              obtain ⟨M70, e69, hf⟩ := px_bq_e hf
              refine px_cV (As := [.int r60, .int r62, .int (1 : Int32)]) (rest := []) X hml hl w (cC_run l D cs ad e69) lk_5_225 (by decide) (rcC_0 X.2.2.2.2 w) rfl (Nat.le_of_ble_eq_true rfl) dX5_doTask_107 (fun H locs w => ?_)
              refine lv_aload_n X.1 X.2.1 dX5_doTask_110 rfl (lv_at hl 6 rfl) ?_
              obtain ⟨M72, e71, hf⟩ := px_bq_e hf
              refine px_cV (As := []) (rest := []) X hml hl w (cC_reportFailure l D cs ad e71) lk_5_228 (by decide) (rcC_0 X.2.2.2.2 w) rfl (Nat.le_of_ble_eq_true rfl) dX5_doTask_111 (fun H locs w => ?_)
              refine lv_iconst (v := (1 : Int32)) X.1 X.2.1 dX5_doTask_114 (by decide) ?_
              cases hf
              exact px_retZ X hr hlk narrow_b1 w dX5_doTask_115
            · have hf := px_in c66 hf
              refine lv_iconst (v := (0 : Int32)) X.1 X.2.1 dX5_doTask_83 (by decide) ?_
              cases hf
              exact px_retZ X hr hlk narrow_b0 w dX5_doTask_84
          · have hf := px_ip c65 hf
            refine lv_iconst (v := (1 : Int32)) X.1 X.2.1 dX5_doTask_38 (by decide) ?_
            refine lv_goto (tgt := 43) X.1 X.2.1 dX5_doTask_39 (by decide) ?_
            refine lv_istore (lv' := [(5, .int (1 : Int32)), (4, .int r62), (3, .int r60), (2, .ref (ad 16)), (1, .int r2), (0, .ref (ad 0))]) X.1 X.2.1 dX5_doTask_43 hl (by decide) rfl (fun ls hl => ?_)
            refine lv_iload X.1 X.2.1 dX5_doTask_45 (lv_at hl 0 rfl) ?_
            refine lv_if_eq (tgt := 62) X.1 X.2.1 dX5_doTask_47 (by decide) (fun c => absurd c (by decide)) (fun _ => ?_)
            refine lv_aload_n X.1 X.2.1 dX5_doTask_50 rfl (lv_at hl 5 rfl) ?_
            refine gtC_0_8 X w dX5_doTask_51 ?_
            refine lv_iload_n X.1 X.2.1 dX5_doTask_54 rfl (lv_at hl 2 rfl) ?_
            obtain ⟨r74, e73, hf⟩ := px_bq_e hf
            refine px_cI (As := [.int r60]) (rest := []) X hml hl w (cC_Timers_find l D cs ad e73) lk_5_265 (by decide) (rcC_43 X.2.2.2.2 w) rfl (Nat.le_of_ble_eq_true rfl) dX5_doTask_55 (fun H locs w => ?_)
            refine lv_iconst (v := (-1 : Int32)) X.1 X.2.1 dX5_doTask_58 (by decide) ?_
            refine lv_icmp_eq (tgt := 66) X.1 X.2.1 dX5_doTask_59 (by decide) (fun c75 => ?_) (fun c75 => ?_)
            · have hf := px_ip c75 hf
              refine lv_iconst (v := (0 : Int32)) X.1 X.2.1 dX5_doTask_66 (by decide) ?_
              refine lv_istore (lv' := [(6, .int (0 : Int32)), (5, .int (1 : Int32)), (4, .int r62), (3, .int r60), (2, .ref (ad 16)), (1, .int r2), (0, .ref (ad 0))]) X.1 X.2.1 dX5_doTask_67 hl (by decide) rfl (fun ls hl => ?_)
              refine lv_iload X.1 X.2.1 dX5_doTask_69 (lv_at hl 0 rfl) ?_
              refine lv_if_eq (tgt := 85) X.1 X.2.1 dX5_doTask_71 (by decide) (fun _ => ?_) (fun c => absurd c (by decide))
              refine lv_aload_n X.1 X.2.1 dX5_doTask_85 rfl (lv_at hl 4 rfl) ?_
              obtain ⟨M77, e76, hf⟩ := px_bq_e hf
              refine px_cV (As := []) (rest := []) X hml hl w (cC_Line_drop_16 l D cs ad e76) lk_5_222 (by decide) (rcC_16 X.2.2.2.2 w) rfl (Nat.le_of_ble_eq_true rfl) dX5_doTask_86 (fun H locs w => ?_)
              refine lv_iload X.1 X.2.1 dX5_doTask_89 (lv_at hl 1 rfl) ?_
              refine lv_if_eq (tgt := 102) X.1 X.2.1 dX5_doTask_91 (by decide) (fun c => absurd c (by decide)) (fun _ => ?_)
              refine lv_aload_n X.1 X.2.1 dX5_doTask_94 rfl (lv_at hl 6 rfl) ?_
              refine lv_iload_n X.1 X.2.1 dX5_doTask_95 rfl (lv_at hl 3 rfl) ?_
              obtain ⟨M79, e78, hf⟩ := px_bq_e hf
              refine px_cV (As := [.int r60]) (rest := []) X hml hl w (cC_doTimer l D cs ad e78) lk_5_268 (by decide) (rcC_0 X.2.2.2.2 w) rfl (Nat.le_of_ble_eq_true rfl) dX5_doTask_96 (fun H locs w => ?_)
              refine lv_goto (tgt := 114) X.1 X.2.1 dX5_doTask_99 (by decide) ?_
              refine lv_iconst (v := (1 : Int32)) X.1 X.2.1 dX5_doTask_114 (by decide) ?_
              cases hf
              exact px_retZ X hr hlk narrow_b1 w dX5_doTask_115
            · have hf := px_in c75 hf
              refine lv_iconst (v := (1 : Int32)) X.1 X.2.1 dX5_doTask_62 (by decide) ?_
              refine lv_goto (tgt := 67) X.1 X.2.1 dX5_doTask_63 (by decide) ?_
              refine lv_istore (lv' := [(6, .int (1 : Int32)), (5, .int (1 : Int32)), (4, .int r62), (3, .int r60), (2, .ref (ad 16)), (1, .int r2), (0, .ref (ad 0))]) X.1 X.2.1 dX5_doTask_67 hl (by decide) rfl (fun ls hl => ?_)
              refine lv_iload X.1 X.2.1 dX5_doTask_69 (lv_at hl 0 rfl) ?_
              refine lv_if_eq (tgt := 85) X.1 X.2.1 dX5_doTask_71 (by decide) (fun c => absurd c (by decide)) (fun _ => ?_)
              refine lv_aload_n X.1 X.2.1 dX5_doTask_74 rfl (lv_at hl 6 rfl) ?_
              refine gtC_0_12 X w dX5_doTask_75 ?_
              refine lv_bipush (v := (50 : Int32)) X.1 X.2.1 dX5_doTask_78 (by decide) ?_
              refine lv_icmp_lt (tgt := 85) X.1 X.2.1 dX5_doTask_80 (by decide) (fun c80 => ?_) (fun c80 => ?_)
              · have hf := px_ip c80 hf
                refine lv_aload_n X.1 X.2.1 dX5_doTask_85 rfl (lv_at hl 4 rfl) ?_
                obtain ⟨M82, e81, hf⟩ := px_bq_e hf
                refine px_cV (As := []) (rest := []) X hml hl w (cC_Line_drop_16 l D cs ad e81) lk_5_222 (by decide) (rcC_16 X.2.2.2.2 w) rfl (Nat.le_of_ble_eq_true rfl) dX5_doTask_86 (fun H locs w => ?_)
                refine lv_iload X.1 X.2.1 dX5_doTask_89 (lv_at hl 1 rfl) ?_
                refine lv_if_eq (tgt := 102) X.1 X.2.1 dX5_doTask_91 (by decide) (fun c => absurd c (by decide)) (fun _ => ?_)
                refine lv_aload_n X.1 X.2.1 dX5_doTask_94 rfl (lv_at hl 6 rfl) ?_
                refine lv_iload_n X.1 X.2.1 dX5_doTask_95 rfl (lv_at hl 3 rfl) ?_
                obtain ⟨M84, e83, hf⟩ := px_bq_e hf
                refine px_cV (As := [.int r60]) (rest := []) X hml hl w (cC_doTimer l D cs ad e83) lk_5_268 (by decide) (rcC_0 X.2.2.2.2 w) rfl (Nat.le_of_ble_eq_true rfl) dX5_doTask_96 (fun H locs w => ?_)
                refine lv_goto (tgt := 114) X.1 X.2.1 dX5_doTask_99 (by decide) ?_
                refine lv_iconst (v := (1 : Int32)) X.1 X.2.1 dX5_doTask_114 (by decide) ?_
                cases hf
                exact px_retZ X hr hlk narrow_b1 w dX5_doTask_115
              · have hf := px_in c80 hf
                refine lv_iconst (v := (0 : Int32)) X.1 X.2.1 dX5_doTask_83 (by decide) ?_
                cases hf
                exact px_retZ X hr hlk narrow_b0 w dX5_doTask_84
        · have hf := px_in c58 hf
          cases hf
  · have hf := px_ip c3 hf
    refine lv_iconst (v := (1 : Int32)) X.1 X.2.1 dX5_doTask_10 (by decide) ?_
    cases hf
    exact px_retZ X hr hlk narrow_b1 w dX5_doTask_11
def fC_doFrame (M : px_M) (p1 : Int32) : Option (Int32 × px_M) := (if (M 0 12) < (50 : Int32) then px_bq (fC_Line_subject_24 M) (fun r3 => px_bq (fC_Line_drop_24 M) (fun M5 => px_bq (fC_run M5 r3 (M5 0 10) (1 : Int32)) (fun M7 => px_bq (fC_reportFailure M7) (fun M9 => (if p1 = 0 then some ((1 : Int32), M9) else px_bn (px_up M9 0 11 (0 : Int32)) (fun M11 => some ((1 : Int32), M11))))))) else some ((0 : Int32), M))
set_option maxHeartbeats 4000000 in
set_option maxRecDepth 100000 in
theorem cC_doFrame (l : Launch) (D : va_G) (cs : Nat → ClassId) (ad : Nat → Nat) {M : px_M} {p1 : Int32} {r : Int32} {M' : px_M} (hf : fC_doFrame M p1 = some (r, M')) : px_mI l D (tyC cs) (wC cs ad) yX5_doFrame cX5_doFrame 3 (some .boolean) 28 [.ref (ad 0), .int p1] M r M' := by
  refine px_ofI (by decide +kernel) (Nat.le_of_ble_eq_true rfl) ?_
  intro p e s m below meth c A ls X hr hlk hml w hl
  have hl : lv_has ls 3 [(0, .ref (ad 0)), (1, .int p1)] := hl
  unfold fC_doFrame at hf
  refine lv_aload_n X.1 X.2.1 dX5_doFrame_0 rfl (lv_at hl 0 rfl) ?_
  refine gtC_0_12 X w dX5_doFrame_1 ?_
  refine lv_bipush (v := (50 : Int32)) X.1 X.2.1 dX5_doFrame_4 (by decide) ?_
  refine lv_icmp_lt (tgt := 11) X.1 X.2.1 dX5_doFrame_6 (by decide) (fun c1 => ?_) (fun c1 => ?_)
  · have hf := px_ip c1 hf
    refine lv_aload_n X.1 X.2.1 dX5_doFrame_11 rfl (lv_at hl 0 rfl) ?_
    refine gtC_0_4 X w dX5_doFrame_12 ?_
    obtain ⟨r3, e2, hf⟩ := px_bq_e hf
    refine px_cI (As := []) (rest := []) X hml hl w (cC_Line_subject_24 l D cs ad e2) lk_5_216 (by decide) (rcC_24 X.2.2.2.2 w) rfl (Nat.le_of_ble_eq_true rfl) dX5_doFrame_15 (fun H locs w => ?_)
    refine lv_istore_n (lv' := [(2, .int r3), (0, .ref (ad 0)), (1, .int p1)]) X.1 X.2.1 dX5_doFrame_18 rfl hl (by decide) rfl (fun ls hl => ?_)
    refine lv_aload_n X.1 X.2.1 dX5_doFrame_19 rfl (lv_at hl 1 rfl) ?_
    refine gtC_0_4 X w dX5_doFrame_20 ?_
    obtain ⟨M5, e4, hf⟩ := px_bq_e hf
    refine px_cV (As := []) (rest := []) X hml hl w (cC_Line_drop_24 l D cs ad e4) lk_5_222 (by decide) (rcC_24 X.2.2.2.2 w) rfl (Nat.le_of_ble_eq_true rfl) dX5_doFrame_23 (fun H locs w => ?_)
    refine lv_aload_n X.1 X.2.1 dX5_doFrame_26 rfl (lv_at hl 1 rfl) ?_
    refine lv_iload_n X.1 X.2.1 dX5_doFrame_27 rfl (lv_at hl 0 rfl) ?_
    refine lv_aload_n X.1 X.2.1 dX5_doFrame_28 rfl (lv_at hl 1 rfl) ?_
    refine gtC_0_10 X w dX5_doFrame_29 ?_
    refine lv_iconst (v := (1 : Int32)) X.1 X.2.1 dX5_doFrame_32 (by decide) ?_
    obtain ⟨M7, e6, hf⟩ := px_bq_e hf
    refine px_cV (As := [.int r3, .int (M5 0 10), .int (1 : Int32)]) (rest := []) X hml hl w (cC_run l D cs ad e6) lk_5_225 (by decide) (rcC_0 X.2.2.2.2 w) rfl (Nat.le_of_ble_eq_true rfl) dX5_doFrame_33 (fun H locs w => ?_)
    refine lv_aload_n X.1 X.2.1 dX5_doFrame_36 rfl (lv_at hl 1 rfl) ?_
    obtain ⟨M9, e8, hf⟩ := px_bq_e hf
    refine px_cV (As := []) (rest := []) X hml hl w (cC_reportFailure l D cs ad e8) lk_5_228 (by decide) (rcC_0 X.2.2.2.2 w) rfl (Nat.le_of_ble_eq_true rfl) dX5_doFrame_37 (fun H locs w => ?_)
    refine lv_iload_n X.1 X.2.1 dX5_doFrame_40 rfl (lv_at hl 2 rfl) ?_
    refine lv_if_eq (tgt := 49) X.1 X.2.1 dX5_doFrame_41 (by decide) (fun c10 => ?_) (fun c10 => ?_)
    · have hf := px_ip c10 hf
      refine lv_iconst (v := (1 : Int32)) X.1 X.2.1 dX5_doFrame_49 (by decide) ?_
      cases hf
      exact px_retZ X hr hlk narrow_b1 w dX5_doFrame_50
    · have hf := px_in c10 hf
      refine lv_aload_n X.1 X.2.1 dX5_doFrame_44 rfl (lv_at hl 1 rfl) ?_
      refine lv_iconst (v := (0 : Int32)) X.1 X.2.1 dX5_doFrame_45 (by decide) ?_
      refine ptC_0_11 X w rfl dX5_doFrame_46 (fun H locs w => ?_)
      obtain ⟨M11, eM11, hf⟩ := px_bn_e hf
      rw [← eM11] at w
      refine lv_iconst (v := (1 : Int32)) X.1 X.2.1 dX5_doFrame_49 (by decide) ?_
      cases hf
      exact px_retZ X hr hlk narrow_b1 w dX5_doFrame_50
  · have hf := px_in c1 hf
    refine lv_iconst (v := (0 : Int32)) X.1 X.2.1 dX5_doFrame_9 (by decide) ?_
    cases hf
    exact px_retZ X hr hlk narrow_b0 w dX5_doFrame_10
theorem lk_5_141 : px_Lk RX5 141 yX5_checkpoint cX5_checkpoint 5 (some .boolean) 0 := ⟨px_tb (by decide +kernel) (by decide +kernel), px_tb (by decide +kernel) (by decide +kernel), px_tb (by decide +kernel) (by decide +kernel), px_tb (by decide +kernel) (by decide +kernel), px_tb (by decide +kernel) (by decide +kernel), by decide +kernel, by decide⟩
theorem lk_5_151 : px_Lk RX5 151 yX5_doFrame cX5_doFrame 3 (some .boolean) 1 := ⟨px_tb (by decide +kernel) (by decide +kernel), px_tb (by decide +kernel) (by decide +kernel), px_tb (by decide +kernel) (by decide +kernel), px_tb (by decide +kernel) (by decide +kernel), px_tb (by decide +kernel) (by decide +kernel), by decide +kernel, by decide⟩
theorem lk_5_145 : px_Lk RX5 145 yX5_doTask cX5_doTask 7 (some .boolean) 0 := ⟨px_tb (by decide +kernel) (by decide +kernel), px_tb (by decide +kernel) (by decide +kernel), px_tb (by decide +kernel) (by decide +kernel), px_tb (by decide +kernel) (by decide +kernel), px_tb (by decide +kernel) (by decide +kernel), by decide +kernel, by decide⟩
def gC_turn_L70 (rc : px_M → Int32 → Int32 → Int32 → Option (Int32 × px_M)) (M : px_M) (y1 y2 y3 : Int32) : Option (Int32 × px_M) := (if y1 = 0 then some ((M 0 12), M) else (if y3 ≤ 0 then some ((M 0 12), M) else (if y3 = (1 : Int32) then px_bo (fC_doFrame M (1 : Int32)) (fun r18 M19 => (if r18 = 0 then rc M19 (0 : Int32) y2 (y3 + (-1 : Int32)) else px_bo (fC_checkpoint M19) (fun r22 M23 => (if r22 = 0 then rc M23 (0 : Int32) y2 (y3 + (-1 : Int32)) else rc M23 (1 : Int32) y2 (y3 + (-1 : Int32)))))) else px_bo (fC_doFrame M (0 : Int32)) (fun r10 M11 => (if r10 = 0 then rc M11 (0 : Int32) y2 (y3 + (-1 : Int32)) else px_bo (fC_checkpoint M11) (fun r14 M15 => (if r14 = 0 then rc M15 (0 : Int32) y2 (y3 + (-1 : Int32)) else rc M15 (1 : Int32) y2 (y3 + (-1 : Int32)))))))))
set_option maxHeartbeats 4000000 in
set_option maxRecDepth 100000 in
theorem lC_turn_L70 {l : Launch} {D : va_G} {cs : Nat → ClassId} {ad : Nat → Nat} {p : Program} {e : Env} {s : State} {m : MethodId} {args : Array Value} {below : List Frame} {meth : Method} {c : Code} {A : Nat → Prop} (X : px_X D (tyC cs) p s m args c cX5_turn yX5_turn.cls) (hr : meth.sig.returnType = (some .int)) (hlk : meth.locks = false) (hml : c.maxLocals = 4) : ∀ (j : Nat) (M : px_M) (y1 y2 y3 : Int32) (z : Int32 × px_M), px_fx3 gC_turn_L70 j M y1 y2 y3 = some z → ∀ (H : Heap) (locs : List Loc) (ls : Array Slot), px_H D (wC cs ad) A s.heap M H locs → lv_has ls 4 [(0, .ref (ad 0)), (1, .int y1), (2, .int y2), (3, .int y3)] → W p l e (px_rm 30) s m args below meth c H locs 0 0 (px_QI D (tyC cs) (wC cs ad) below args s A z.1 z.2) (F0 m 70 ls []) := by
  refine px_fx3_i (P := fun M y1 y2 y3 (z : Int32 × px_M) => ∀ (H : Heap) (locs : List Loc) (ls : Array Slot), px_H D (wC cs ad) A s.heap M H locs → lv_has ls 4 [(0, .ref (ad 0)), (1, .int y1), (2, .int y2), (3, .int y3)] → W p l e (px_rm 30) s m args below meth c H locs 0 0 (px_QI D (tyC cs) (wC cs ad) below args s A z.1 z.2) (F0 m 70 ls [])) ?_
  intro rc ih M y1 y2 y3 z hf H locs ls w hl
  unfold gC_turn_L70 at hf
  refine lv_iload_n X.1 X.2.1 dX5_turn_70 rfl (lv_at hl 1 rfl) ?_
  refine lv_if_eq (tgt := 114) X.1 X.2.1 dX5_turn_71 (by decide) (fun c6 => ?_) (fun c6 => ?_)
  · have hf := px_ip c6 hf
    refine lv_aload_n X.1 X.2.1 dX5_turn_114 rfl (lv_at hl 0 rfl) ?_
    refine gtC_0_12 X w dX5_turn_115 ?_
    cases hf
    exact px_retI X hr hlk w dX5_turn_118
  · have hf := px_in c6 hf
    refine lv_iload_n X.1 X.2.1 dX5_turn_74 rfl (lv_at hl 3 rfl) ?_
    refine lv_if_le (tgt := 114) X.1 X.2.1 dX5_turn_75 (by decide) (fun c7 => ?_) (fun c7 => ?_)
    · have hf := px_ip c7 hf
      refine lv_aload_n X.1 X.2.1 dX5_turn_114 rfl (lv_at hl 0 rfl) ?_
      refine gtC_0_12 X w dX5_turn_115 ?_
      cases hf
      exact px_retI X hr hlk w dX5_turn_118
    · have hf := px_in c7 hf
      refine lv_aload_n X.1 X.2.1 dX5_turn_78 rfl (lv_at hl 0 rfl) ?_
      refine lv_iload_n X.1 X.2.1 dX5_turn_79 rfl (lv_at hl 3 rfl) ?_
      refine lv_iconst (v := (1 : Int32)) X.1 X.2.1 dX5_turn_80 (by decide) ?_
      refine lv_icmp_ne (tgt := 88) X.1 X.2.1 dX5_turn_81 (by decide) (fun c8 => ?_) (fun c8 => ?_)
      · have hf := px_in c8 hf
        refine lv_iconst (v := (0 : Int32)) X.1 X.2.1 dX5_turn_88 (by decide) ?_
        obtain ⟨r10, M11, e9, hf⟩ := px_bo_e hf
        refine px_cI (As := [.int (0 : Int32)]) (rest := []) X hml hl w (cC_doFrame l D cs ad e9) lk_5_151 (by decide) (rcC_0 X.2.2.2.2 w) rfl (Nat.le_of_ble_eq_true rfl) dX5_turn_89 (fun H locs w => ?_)
        refine lv_if_eq (tgt := 106) X.1 X.2.1 dX5_turn_92 (by decide) (fun c12 => ?_) (fun c12 => ?_)
        · have hf := px_ip c12 hf
          refine lv_iconst (v := (0 : Int32)) X.1 X.2.1 dX5_turn_106 (by decide) ?_
          refine lv_istore_n (lv' := [(1, .int (0 : Int32)), (0, .ref (ad 0)), (2, .int y2), (3, .int y3)]) X.1 X.2.1 dX5_turn_107 rfl hl (by decide) rfl (fun ls hl => ?_)
          refine lv_iinc (v := (y3 + (-1 : Int32))) (lv' := [(3, .int (y3 + (-1 : Int32))), (1, .int (0 : Int32)), (0, .ref (ad 0)), (2, .int y2)]) X.1 X.2.1 dX5_turn_108 hl (k := 3) rfl rfl (by decide) rfl (fun ls hl => ?_)
          refine lv_goto (tgt := 70) X.1 X.2.1 dX5_turn_111 (by decide) ?_
          exact ih M11 (0 : Int32) y2 (y3 + (-1 : Int32)) _ hf H locs ls w (lv_sub hl [2, 1, 3, 0] rfl)
        · have hf := px_in c12 hf
          refine lv_aload_n X.1 X.2.1 dX5_turn_95 rfl (lv_at hl 0 rfl) ?_
          obtain ⟨r14, M15, e13, hf⟩ := px_bo_e hf
          refine px_cI (As := []) (rest := []) X hml hl w (cC_checkpoint l D cs ad e13) lk_5_141 (by decide) (rcC_0 X.2.2.2.2 w) rfl (Nat.le_of_ble_eq_true rfl) dX5_turn_96 (fun H locs w => ?_)
          refine lv_if_eq (tgt := 106) X.1 X.2.1 dX5_turn_99 (by decide) (fun c16 => ?_) (fun c16 => ?_)
          · have hf := px_ip c16 hf
            refine lv_iconst (v := (0 : Int32)) X.1 X.2.1 dX5_turn_106 (by decide) ?_
            refine lv_istore_n (lv' := [(1, .int (0 : Int32)), (0, .ref (ad 0)), (2, .int y2), (3, .int y3)]) X.1 X.2.1 dX5_turn_107 rfl hl (by decide) rfl (fun ls hl => ?_)
            refine lv_iinc (v := (y3 + (-1 : Int32))) (lv' := [(3, .int (y3 + (-1 : Int32))), (1, .int (0 : Int32)), (0, .ref (ad 0)), (2, .int y2)]) X.1 X.2.1 dX5_turn_108 hl (k := 3) rfl rfl (by decide) rfl (fun ls hl => ?_)
            refine lv_goto (tgt := 70) X.1 X.2.1 dX5_turn_111 (by decide) ?_
            exact ih M15 (0 : Int32) y2 (y3 + (-1 : Int32)) _ hf H locs ls w (lv_sub hl [2, 1, 3, 0] rfl)
          · have hf := px_in c16 hf
            refine lv_iconst (v := (1 : Int32)) X.1 X.2.1 dX5_turn_102 (by decide) ?_
            refine lv_goto (tgt := 107) X.1 X.2.1 dX5_turn_103 (by decide) ?_
            refine lv_istore_n (lv' := [(1, .int (1 : Int32)), (0, .ref (ad 0)), (2, .int y2), (3, .int y3)]) X.1 X.2.1 dX5_turn_107 rfl hl (by decide) rfl (fun ls hl => ?_)
            refine lv_iinc (v := (y3 + (-1 : Int32))) (lv' := [(3, .int (y3 + (-1 : Int32))), (1, .int (1 : Int32)), (0, .ref (ad 0)), (2, .int y2)]) X.1 X.2.1 dX5_turn_108 hl (k := 3) rfl rfl (by decide) rfl (fun ls hl => ?_)
            refine lv_goto (tgt := 70) X.1 X.2.1 dX5_turn_111 (by decide) ?_
            exact ih M15 (1 : Int32) y2 (y3 + (-1 : Int32)) _ hf H locs ls w (lv_sub hl [2, 1, 3, 0] rfl)
      · have hf := px_ip c8 hf
        refine lv_iconst (v := (1 : Int32)) X.1 X.2.1 dX5_turn_84 (by decide) ?_
        refine lv_goto (tgt := 89) X.1 X.2.1 dX5_turn_85 (by decide) ?_
        obtain ⟨r18, M19, e17, hf⟩ := px_bo_e hf
        refine px_cI (As := [.int (1 : Int32)]) (rest := []) X hml hl w (cC_doFrame l D cs ad e17) lk_5_151 (by decide) (rcC_0 X.2.2.2.2 w) rfl (Nat.le_of_ble_eq_true rfl) dX5_turn_89 (fun H locs w => ?_)
        refine lv_if_eq (tgt := 106) X.1 X.2.1 dX5_turn_92 (by decide) (fun c20 => ?_) (fun c20 => ?_)
        · have hf := px_ip c20 hf
          refine lv_iconst (v := (0 : Int32)) X.1 X.2.1 dX5_turn_106 (by decide) ?_
          refine lv_istore_n (lv' := [(1, .int (0 : Int32)), (0, .ref (ad 0)), (2, .int y2), (3, .int y3)]) X.1 X.2.1 dX5_turn_107 rfl hl (by decide) rfl (fun ls hl => ?_)
          refine lv_iinc (v := (y3 + (-1 : Int32))) (lv' := [(3, .int (y3 + (-1 : Int32))), (1, .int (0 : Int32)), (0, .ref (ad 0)), (2, .int y2)]) X.1 X.2.1 dX5_turn_108 hl (k := 3) rfl rfl (by decide) rfl (fun ls hl => ?_)
          refine lv_goto (tgt := 70) X.1 X.2.1 dX5_turn_111 (by decide) ?_
          exact ih M19 (0 : Int32) y2 (y3 + (-1 : Int32)) _ hf H locs ls w (lv_sub hl [2, 1, 3, 0] rfl)
        · have hf := px_in c20 hf
          refine lv_aload_n X.1 X.2.1 dX5_turn_95 rfl (lv_at hl 0 rfl) ?_
          obtain ⟨r22, M23, e21, hf⟩ := px_bo_e hf
          refine px_cI (As := []) (rest := []) X hml hl w (cC_checkpoint l D cs ad e21) lk_5_141 (by decide) (rcC_0 X.2.2.2.2 w) rfl (Nat.le_of_ble_eq_true rfl) dX5_turn_96 (fun H locs w => ?_)
          refine lv_if_eq (tgt := 106) X.1 X.2.1 dX5_turn_99 (by decide) (fun c24 => ?_) (fun c24 => ?_)
          · have hf := px_ip c24 hf
            refine lv_iconst (v := (0 : Int32)) X.1 X.2.1 dX5_turn_106 (by decide) ?_
            refine lv_istore_n (lv' := [(1, .int (0 : Int32)), (0, .ref (ad 0)), (2, .int y2), (3, .int y3)]) X.1 X.2.1 dX5_turn_107 rfl hl (by decide) rfl (fun ls hl => ?_)
            refine lv_iinc (v := (y3 + (-1 : Int32))) (lv' := [(3, .int (y3 + (-1 : Int32))), (1, .int (0 : Int32)), (0, .ref (ad 0)), (2, .int y2)]) X.1 X.2.1 dX5_turn_108 hl (k := 3) rfl rfl (by decide) rfl (fun ls hl => ?_)
            refine lv_goto (tgt := 70) X.1 X.2.1 dX5_turn_111 (by decide) ?_
            exact ih M23 (0 : Int32) y2 (y3 + (-1 : Int32)) _ hf H locs ls w (lv_sub hl [2, 1, 3, 0] rfl)
          · have hf := px_in c24 hf
            refine lv_iconst (v := (1 : Int32)) X.1 X.2.1 dX5_turn_102 (by decide) ?_
            refine lv_goto (tgt := 107) X.1 X.2.1 dX5_turn_103 (by decide) ?_
            refine lv_istore_n (lv' := [(1, .int (1 : Int32)), (0, .ref (ad 0)), (2, .int y2), (3, .int y3)]) X.1 X.2.1 dX5_turn_107 rfl hl (by decide) rfl (fun ls hl => ?_)
            refine lv_iinc (v := (y3 + (-1 : Int32))) (lv' := [(3, .int (y3 + (-1 : Int32))), (1, .int (1 : Int32)), (0, .ref (ad 0)), (2, .int y2)]) X.1 X.2.1 dX5_turn_108 hl (k := 3) rfl rfl (by decide) rfl (fun ls hl => ?_)
            refine lv_goto (tgt := 70) X.1 X.2.1 dX5_turn_111 (by decide) ?_
            exact ih M23 (1 : Int32) y2 (y3 + (-1 : Int32)) _ hf H locs ls w (lv_sub hl [2, 1, 3, 0] rfl)
def fC_turn (M : px_M) : Option (Int32 × px_M) := px_bn (px_up M 0 12 (0 : Int32)) (fun M1 => px_bo (fC_checkpoint M1) (fun r3 M4 => (if r3 = 0 then px_fx3 gC_turn_L70 9 M4 (0 : Int32) (0 : Int32) (0 : Int32) else px_bo (fC_doTask M4) (fun r26 M27 => (if r26 = 0 then px_fx3 gC_turn_L70 9 M27 (0 : Int32) (0 : Int32) (0 : Int32) else px_bo (fC_checkpoint M27) (fun r30 M31 => (if r30 = 0 then px_fx3 gC_turn_L70 9 M31 (0 : Int32) (0 : Int32) (0 : Int32) else (if (M31 0 11) = 0 then px_bn (px_up M31 0 11 (0 : Int32)) (fun M34 => px_fx3 gC_turn_L70 9 M34 (1 : Int32) (0 : Int32) (0 : Int32)) else px_bq (fC_Line_size_24 M31) (fun r36 => (if r36 = 0 then px_bn (px_up M31 0 11 (0 : Int32)) (fun M38 => px_fx3 gC_turn_L70 9 M38 (1 : Int32) r36 r36) else px_fx3 gC_turn_L70 9 M31 (1 : Int32) r36 r36))))))))))
set_option maxHeartbeats 4000000 in
set_option maxRecDepth 100000 in
theorem cC_turn (l : Launch) (D : va_G) (cs : Nat → ClassId) (ad : Nat → Nat) {M : px_M} {r : Int32} {M' : px_M} (hf : fC_turn M = some (r, M')) : px_mI l D (tyC cs) (wC cs ad) yX5_turn cX5_turn 4 (some .int) 30 [.ref (ad 0)] M r M' := by
  refine px_ofI (by decide +kernel) (Nat.le_of_ble_eq_true rfl) ?_
  intro p e s m below meth c A ls X hr hlk hml w hl
  have hl : lv_has ls 4 [(0, .ref (ad 0))] := hl
  unfold fC_turn at hf
  refine lv_aload_n X.1 X.2.1 dX5_turn_0 rfl (lv_at hl 0 rfl) ?_
  refine lv_iconst (v := (0 : Int32)) X.1 X.2.1 dX5_turn_1 (by decide) ?_
  refine ptC_0_12 X w dX5_turn_2 (fun H locs w => ?_)
  obtain ⟨M1, eM1, hf⟩ := px_bn_e hf
  rw [← eM1] at w
  refine lv_aload_n X.1 X.2.1 dX5_turn_5 rfl (lv_at hl 0 rfl) ?_
  obtain ⟨r3, M4, e2, hf⟩ := px_bo_e hf
  refine px_cI (As := []) (rest := []) X hml hl w (cC_checkpoint l D cs ad e2) lk_5_141 (by decide) (rcC_0 X.2.2.2.2 w) rfl (Nat.le_of_ble_eq_true rfl) dX5_turn_6 (fun H locs w => ?_)
  refine lv_if_eq (tgt := 30) X.1 X.2.1 dX5_turn_9 (by decide) (fun c5 => ?_) (fun c5 => ?_)
  · have hf := px_ip c5 hf
    refine lv_iconst (v := (0 : Int32)) X.1 X.2.1 dX5_turn_30 (by decide) ?_
    refine lv_istore_n (lv' := [(1, .int (0 : Int32)), (0, .ref (ad 0))]) X.1 X.2.1 dX5_turn_31 rfl hl (by decide) rfl (fun ls hl => ?_)
    refine lv_iload_n X.1 X.2.1 dX5_turn_32 rfl (lv_at hl 0 rfl) ?_
    refine lv_if_eq (tgt := 53) X.1 X.2.1 dX5_turn_33 (by decide) (fun _ => ?_) (fun c => absurd c (by decide))
    refine lv_iconst (v := (0 : Int32)) X.1 X.2.1 dX5_turn_53 (by decide) ?_
    refine lv_istore_n (lv' := [(2, .int (0 : Int32)), (1, .int (0 : Int32)), (0, .ref (ad 0))]) X.1 X.2.1 dX5_turn_54 rfl hl (by decide) rfl (fun ls hl => ?_)
    refine lv_iload_n X.1 X.2.1 dX5_turn_55 rfl (lv_at hl 1 rfl) ?_
    refine lv_if_eq (tgt := 68) X.1 X.2.1 dX5_turn_56 (by decide) (fun _ => ?_) (fun c => absurd c (by decide))
    refine lv_iload_n X.1 X.2.1 dX5_turn_68 rfl (lv_at hl 0 rfl) ?_
    refine lv_istore_n (lv' := [(3, .int (0 : Int32)), (2, .int (0 : Int32)), (1, .int (0 : Int32)), (0, .ref (ad 0))]) X.1 X.2.1 dX5_turn_69 rfl hl (by decide) rfl (fun ls hl => ?_)
    exact lC_turn_L70 X hr hlk hml 9 M4 (0 : Int32) (0 : Int32) (0 : Int32) _ hf _ _ ls w (lv_sub hl [3, 2, 1, 0] rfl)
  · have hf := px_in c5 hf
    refine lv_aload_n X.1 X.2.1 dX5_turn_12 rfl (lv_at hl 0 rfl) ?_
    obtain ⟨r26, M27, e25, hf⟩ := px_bo_e hf
    refine px_cI (As := []) (rest := []) X hml hl w (cC_doTask l D cs ad e25) lk_5_145 (by decide) (rcC_0 X.2.2.2.2 w) rfl (Nat.le_of_ble_eq_true rfl) dX5_turn_13 (fun H locs w => ?_)
    refine lv_if_eq (tgt := 30) X.1 X.2.1 dX5_turn_16 (by decide) (fun c28 => ?_) (fun c28 => ?_)
    · have hf := px_ip c28 hf
      refine lv_iconst (v := (0 : Int32)) X.1 X.2.1 dX5_turn_30 (by decide) ?_
      refine lv_istore_n (lv' := [(1, .int (0 : Int32)), (0, .ref (ad 0))]) X.1 X.2.1 dX5_turn_31 rfl hl (by decide) rfl (fun ls hl => ?_)
      refine lv_iload_n X.1 X.2.1 dX5_turn_32 rfl (lv_at hl 0 rfl) ?_
      refine lv_if_eq (tgt := 53) X.1 X.2.1 dX5_turn_33 (by decide) (fun _ => ?_) (fun c => absurd c (by decide))
      refine lv_iconst (v := (0 : Int32)) X.1 X.2.1 dX5_turn_53 (by decide) ?_
      refine lv_istore_n (lv' := [(2, .int (0 : Int32)), (1, .int (0 : Int32)), (0, .ref (ad 0))]) X.1 X.2.1 dX5_turn_54 rfl hl (by decide) rfl (fun ls hl => ?_)
      refine lv_iload_n X.1 X.2.1 dX5_turn_55 rfl (lv_at hl 1 rfl) ?_
      refine lv_if_eq (tgt := 68) X.1 X.2.1 dX5_turn_56 (by decide) (fun _ => ?_) (fun c => absurd c (by decide))
      refine lv_iload_n X.1 X.2.1 dX5_turn_68 rfl (lv_at hl 0 rfl) ?_
      refine lv_istore_n (lv' := [(3, .int (0 : Int32)), (2, .int (0 : Int32)), (1, .int (0 : Int32)), (0, .ref (ad 0))]) X.1 X.2.1 dX5_turn_69 rfl hl (by decide) rfl (fun ls hl => ?_)
      exact lC_turn_L70 X hr hlk hml 9 M27 (0 : Int32) (0 : Int32) (0 : Int32) _ hf _ _ ls w (lv_sub hl [3, 2, 1, 0] rfl)
    · have hf := px_in c28 hf
      refine lv_aload_n X.1 X.2.1 dX5_turn_19 rfl (lv_at hl 0 rfl) ?_
      obtain ⟨r30, M31, e29, hf⟩ := px_bo_e hf
      refine px_cI (As := []) (rest := []) X hml hl w (cC_checkpoint l D cs ad e29) lk_5_141 (by decide) (rcC_0 X.2.2.2.2 w) rfl (Nat.le_of_ble_eq_true rfl) dX5_turn_20 (fun H locs w => ?_)
      refine lv_if_eq (tgt := 30) X.1 X.2.1 dX5_turn_23 (by decide) (fun c32 => ?_) (fun c32 => ?_)
      · have hf := px_ip c32 hf
        refine lv_iconst (v := (0 : Int32)) X.1 X.2.1 dX5_turn_30 (by decide) ?_
        refine lv_istore_n (lv' := [(1, .int (0 : Int32)), (0, .ref (ad 0))]) X.1 X.2.1 dX5_turn_31 rfl hl (by decide) rfl (fun ls hl => ?_)
        refine lv_iload_n X.1 X.2.1 dX5_turn_32 rfl (lv_at hl 0 rfl) ?_
        refine lv_if_eq (tgt := 53) X.1 X.2.1 dX5_turn_33 (by decide) (fun _ => ?_) (fun c => absurd c (by decide))
        refine lv_iconst (v := (0 : Int32)) X.1 X.2.1 dX5_turn_53 (by decide) ?_
        refine lv_istore_n (lv' := [(2, .int (0 : Int32)), (1, .int (0 : Int32)), (0, .ref (ad 0))]) X.1 X.2.1 dX5_turn_54 rfl hl (by decide) rfl (fun ls hl => ?_)
        refine lv_iload_n X.1 X.2.1 dX5_turn_55 rfl (lv_at hl 1 rfl) ?_
        refine lv_if_eq (tgt := 68) X.1 X.2.1 dX5_turn_56 (by decide) (fun _ => ?_) (fun c => absurd c (by decide))
        refine lv_iload_n X.1 X.2.1 dX5_turn_68 rfl (lv_at hl 0 rfl) ?_
        refine lv_istore_n (lv' := [(3, .int (0 : Int32)), (2, .int (0 : Int32)), (1, .int (0 : Int32)), (0, .ref (ad 0))]) X.1 X.2.1 dX5_turn_69 rfl hl (by decide) rfl (fun ls hl => ?_)
        exact lC_turn_L70 X hr hlk hml 9 M31 (0 : Int32) (0 : Int32) (0 : Int32) _ hf _ _ ls w (lv_sub hl [3, 2, 1, 0] rfl)
      · have hf := px_in c32 hf
        refine lv_iconst (v := (1 : Int32)) X.1 X.2.1 dX5_turn_26 (by decide) ?_
        refine lv_goto (tgt := 31) X.1 X.2.1 dX5_turn_27 (by decide) ?_
        refine lv_istore_n (lv' := [(1, .int (1 : Int32)), (0, .ref (ad 0))]) X.1 X.2.1 dX5_turn_31 rfl hl (by decide) rfl (fun ls hl => ?_)
        refine lv_iload_n X.1 X.2.1 dX5_turn_32 rfl (lv_at hl 0 rfl) ?_
        refine lv_if_eq (tgt := 53) X.1 X.2.1 dX5_turn_33 (by decide) (fun c => absurd c (by decide)) (fun _ => ?_)
        refine lv_aload_n X.1 X.2.1 dX5_turn_36 rfl (lv_at hl 1 rfl) ?_
        refine gtC_0_11 X w dX5_turn_37 ?_
        refine lv_if_eq (tgt := 53) X.1 X.2.1 dX5_turn_40 (by decide) (fun c33 => ?_) (fun c33 => ?_)
        · have hf := px_ip c33 hf
          refine lv_iconst (v := (0 : Int32)) X.1 X.2.1 dX5_turn_53 (by decide) ?_
          refine lv_istore_n (lv' := [(2, .int (0 : Int32)), (1, .int (1 : Int32)), (0, .ref (ad 0))]) X.1 X.2.1 dX5_turn_54 rfl hl (by decide) rfl (fun ls hl => ?_)
          refine lv_iload_n X.1 X.2.1 dX5_turn_55 rfl (lv_at hl 1 rfl) ?_
          refine lv_if_eq (tgt := 68) X.1 X.2.1 dX5_turn_56 (by decide) (fun c => absurd c (by decide)) (fun _ => ?_)
          refine lv_iload_n X.1 X.2.1 dX5_turn_59 rfl (lv_at hl 0 rfl) ?_
          refine lv_if_ne (tgt := 68) X.1 X.2.1 dX5_turn_60 (by decide) (fun c => absurd c (by decide)) (fun _ => ?_)
          refine lv_aload_n X.1 X.2.1 dX5_turn_63 rfl (lv_at hl 2 rfl) ?_
          refine lv_iconst (v := (0 : Int32)) X.1 X.2.1 dX5_turn_64 (by decide) ?_
          refine ptC_0_11 X w rfl dX5_turn_65 (fun H locs w => ?_)
          obtain ⟨M34, eM34, hf⟩ := px_bn_e hf
          rw [← eM34] at w
          refine lv_iload_n X.1 X.2.1 dX5_turn_68 rfl (lv_at hl 0 rfl) ?_
          refine lv_istore_n (lv' := [(3, .int (0 : Int32)), (2, .int (0 : Int32)), (1, .int (1 : Int32)), (0, .ref (ad 0))]) X.1 X.2.1 dX5_turn_69 rfl hl (by decide) rfl (fun ls hl => ?_)
          exact lC_turn_L70 X hr hlk hml 9 M34 (1 : Int32) (0 : Int32) (0 : Int32) _ hf _ _ ls w (lv_sub hl [3, 2, 1, 0] rfl)
        · have hf := px_in c33 hf
          refine lv_aload_n X.1 X.2.1 dX5_turn_43 rfl (lv_at hl 1 rfl) ?_
          refine gtC_0_4 X w dX5_turn_44 ?_
          obtain ⟨r36, e35, hf⟩ := px_bq_e hf
          refine px_cI (As := []) (rest := []) X hml hl w (cC_Line_size_24 l D cs ad e35) lk_5_148 (by decide) (rcC_24 X.2.2.2.2 w) rfl (Nat.le_of_ble_eq_true rfl) dX5_turn_47 (fun H locs w => ?_)
          refine lv_goto (tgt := 54) X.1 X.2.1 dX5_turn_50 (by decide) ?_
          refine lv_istore_n (lv' := [(2, .int r36), (1, .int (1 : Int32)), (0, .ref (ad 0))]) X.1 X.2.1 dX5_turn_54 rfl hl (by decide) rfl (fun ls hl => ?_)
          refine lv_iload_n X.1 X.2.1 dX5_turn_55 rfl (lv_at hl 1 rfl) ?_
          refine lv_if_eq (tgt := 68) X.1 X.2.1 dX5_turn_56 (by decide) (fun c => absurd c (by decide)) (fun _ => ?_)
          refine lv_iload_n X.1 X.2.1 dX5_turn_59 rfl (lv_at hl 0 rfl) ?_
          refine lv_if_ne (tgt := 68) X.1 X.2.1 dX5_turn_60 (by decide) (fun c37 => ?_) (fun c37 => ?_)
          · have hf := px_in c37 hf
            refine lv_iload_n X.1 X.2.1 dX5_turn_68 rfl (lv_at hl 0 rfl) ?_
            refine lv_istore_n (lv' := [(3, .int r36), (2, .int r36), (1, .int (1 : Int32)), (0, .ref (ad 0))]) X.1 X.2.1 dX5_turn_69 rfl hl (by decide) rfl (fun ls hl => ?_)
            exact lC_turn_L70 X hr hlk hml 9 M31 (1 : Int32) r36 r36 _ hf _ _ ls w (lv_sub hl [3, 2, 1, 0] rfl)
          · have hf := px_ip c37 hf
            refine lv_aload_n X.1 X.2.1 dX5_turn_63 rfl (lv_at hl 2 rfl) ?_
            refine lv_iconst (v := (0 : Int32)) X.1 X.2.1 dX5_turn_64 (by decide) ?_
            refine ptC_0_11 X w rfl dX5_turn_65 (fun H locs w => ?_)
            obtain ⟨M38, eM38, hf⟩ := px_bn_e hf
            rw [← eM38] at w
            refine lv_iload_n X.1 X.2.1 dX5_turn_68 rfl (lv_at hl 0 rfl) ?_
            refine lv_istore_n (lv' := [(3, .int r36), (2, .int r36), (1, .int (1 : Int32)), (0, .ref (ad 0))]) X.1 X.2.1 dX5_turn_69 rfl hl (by decide) rfl (fun ls hl => ?_)
            exact lC_turn_L70 X hr hlk hml 9 M38 (1 : Int32) r36 r36 _ hf _ _ ls w (lv_sub hl [3, 2, 1, 0] rfl)
theorem lk_5_201 : px_Lk RX5 201 yX4_dueOf cX4_dueOf 3 (some .int) 1 := ⟨px_tb (by decide +kernel) (by decide +kernel), px_tb (by decide +kernel) (by decide +kernel), px_tb (by decide +kernel) (by decide +kernel), px_tb (by decide +kernel) (by decide +kernel), px_tb (by decide +kernel) (by decide +kernel), by decide +kernel, by decide⟩
def fC_due (M : px_M) (p1 : Int32) : Option Int32 := px_bq (fC_Timers_dueOf M p1) (fun r2 => some r2)
set_option maxHeartbeats 4000000 in
set_option maxRecDepth 100000 in
theorem cC_due (l : Launch) (D : va_G) (cs : Nat → ClassId) (ad : Nat → Nat) {M : px_M} {p1 : Int32} {r : Int32} (hf : fC_due M p1 = some r) : px_mI l D (tyC cs) (wC cs ad) yX5_due cX5_due 2 (some .int) 2 [.ref (ad 0), .int p1] M r M := by
  refine px_ofI (by decide +kernel) (Nat.le_of_ble_eq_true rfl) ?_
  intro p e s m below meth c A ls X hr hlk hml w hl
  have hl : lv_has ls 2 [(0, .ref (ad 0)), (1, .int p1)] := hl
  unfold fC_due at hf
  refine lv_aload_n X.1 X.2.1 dX5_due_0 rfl (lv_at hl 0 rfl) ?_
  refine gtC_0_8 X w dX5_due_1 ?_
  refine lv_iload_n X.1 X.2.1 dX5_due_4 rfl (lv_at hl 1 rfl) ?_
  obtain ⟨r2, e1, hf⟩ := px_bq_e hf
  refine px_cI (As := [.int p1]) (rest := []) X hml hl w (cC_Timers_dueOf l D cs ad e1) lk_5_201 (by decide) (rcC_43 X.2.2.2.2 w) rfl (Nat.le_of_ble_eq_true rfl) dX5_due_5 (fun H locs w => ?_)
  cases hf
  exact px_retI X hr hlk w dX5_due_8
def fC_time (M : px_M) : Option Int32 := some (M 0 10)
set_option maxHeartbeats 4000000 in
set_option maxRecDepth 100000 in
theorem cC_time (l : Launch) (D : va_G) (cs : Nat → ClassId) (ad : Nat → Nat) {M : px_M} {r : Int32} (hf : fC_time M = some r) : px_mI l D (tyC cs) (wC cs ad) yX5_time cX5_time 1 (some .int) 0 [.ref (ad 0)] M r M := by
  refine px_ofI (by decide +kernel) (Nat.le_of_ble_eq_true rfl) ?_
  intro p e s m below meth c A ls X hr hlk hml w hl
  have hl : lv_has ls 1 [(0, .ref (ad 0))] := hl
  unfold fC_time at hf
  refine lv_aload_n X.1 X.2.1 dX5_time_0 rfl (lv_at hl 0 rfl) ?_
  refine gtC_0_10 X w dX5_time_1 ?_
  cases hf
  exact px_retI X hr hlk w dX5_time_4
end
